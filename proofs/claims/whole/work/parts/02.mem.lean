/-! ===== the memory as two maps (ints, references) by address and place; addresses count from the start's heap on; which cell is what is known ahead ===== -/
abbrev Mem : Type := Nat × (Nat → Nat → Int32) × (Nat → Nat → Option Nat)
def zsKL : List Nat := [8, 7, 4, 10, 11, 4, 10, 14, 2, 17, 11, 5, 4, 10, 3, 3, 11, 11, 11, 11, 5, 4, 10, 3, 3, 11, 11, 11, 11, 5, 4, 10, 3, 3, 11, 11, 11, 11, 5, 4, 10, 3, 3, 11, 11, 11, 11, 5, 4, 10, 3, 3, 11, 11, 11, 11, 2, 17, 11, 5, 4, 10, 3, 3, 11, 11, 11, 11, 5, 4, 10, 3, 3, 11, 11, 11, 11, 5, 4, 10, 3, 3, 11, 11, 11, 11, 5, 4, 10, 3, 3, 11, 11, 11, 11, 5, 4, 10, 3, 3, 11, 11, 11, 11, 2, 17, 11, 5, 4, 10, 3, 3, 11, 11, 11, 11, 5, 4, 10, 3, 3, 11, 11, 11, 11, 5, 4, 10, 3, 3, 11, 11, 11, 11, 5, 4, 10, 3, 3, 11, 11, 11, 11, 5, 4, 10, 3, 3, 11, 11, 11, 11, 6, 15, 15, 3, 3, 3, 3, 3, 3, 3, 3, 3, 3, 3, 16, 4, 10, 4, 10, 4, 10, 4, 10, 4, 10, 4, 10, 4, 10, 4, 10, 4, 10, 4, 10, 1, 13, 0, 4, 10, 0, 4, 10, 0, 4, 10, 0, 4, 10, 0, 4, 10, 0, 4, 10, 0, 4, 10, 0, 4, 10, 0, 4, 10, 0, 4, 10, 0, 4, 10, 0, 4, 10, 0, 4, 10, 0, 4, 10, 0, 4, 10, 0, 4, 10, 0, 4, 10, 0, 4, 10, 0, 4, 10, 0, 4, 10, 0, 4, 10, 0, 4, 10, 0, 4, 10, 0, 4, 10, 0, 4, 10, 0, 4, 10, 0, 4, 10, 0, 4, 10, 0, 4, 10, 0, 4, 10, 9, 11, 10, 12, 11, 11, 12, 11, 11, 11, 11, 11, 11, 10, 11, 11, 12, 12, 11, 11, 12, 11, 11, 10, 11, 11, 11, 11, 11, 10, 12, 11, 11, 10, 12, 11, 11, 10, 11, 10, 11]
def zsLL : List Nat := [0, 0, 0, 100, 95, 0, 24, 3, 0, 5, 100, 0, 0, 24, 0, 0, 24, 12, 24, 24, 0, 0, 24, 0, 0, 24, 12, 24, 24, 0, 0, 24, 0, 0, 24, 12, 24, 24, 0, 0, 24, 0, 0, 24, 12, 24, 24, 0, 0, 24, 0, 0, 24, 12, 24, 24, 0, 5, 100, 0, 0, 24, 0, 0, 24, 12, 24, 24, 0, 0, 24, 0, 0, 24, 12, 24, 24, 0, 0, 24, 0, 0, 24, 12, 24, 24, 0, 0, 24, 0, 0, 24, 12, 24, 24, 0, 0, 24, 0, 0, 24, 12, 24, 24, 0, 5, 100, 0, 0, 24, 0, 0, 24, 12, 24, 24, 0, 0, 24, 0, 0, 24, 12, 24, 24, 0, 0, 24, 0, 0, 24, 12, 24, 24, 0, 0, 24, 0, 0, 24, 12, 24, 24, 0, 0, 24, 0, 0, 24, 12, 24, 24, 0, 5, 5, 0, 0, 0, 0, 0, 0, 0, 0, 0, 0, 0, 10, 0, 8, 0, 8, 0, 8, 0, 8, 0, 8, 0, 8, 0, 8, 0, 8, 0, 8, 0, 8, 0, 30, 0, 0, 100, 0, 0, 100, 0, 0, 100, 0, 0, 100, 0, 0, 100, 0, 0, 100, 0, 0, 100, 0, 0, 100, 0, 0, 100, 0, 0, 100, 0, 0, 100, 0, 0, 100, 0, 0, 100, 0, 0, 100, 0, 0, 100, 0, 0, 100, 0, 0, 100, 0, 0, 100, 0, 0, 100, 0, 0, 100, 0, 0, 100, 0, 0, 100, 0, 0, 100, 0, 0, 100, 0, 0, 100, 0, 0, 100, 0, 0, 100, 0, 0, 100, 0, 0, 100, 0, 0, 100, 0, 127, 24, 5, 5, 5, 5, 5, 5, 5, 24, 24, 15, 360, 360, 360, 15, 15, 15, 15, 15, 15, 15, 100, 3, 303, 3, 3, 101, 100, 30, 30, 30, 3000, 30, 30, 30, 3000, 10, 80, 101]
def zsK (a : Nat) : Nat := zsKL.getD a 99
def zsL (a : Nat) : Nat := zsLL.getD a 0
def zisR (ci : Nat) : List Bool := match ci with
  | 0 => [true, false, false]
  | 1 => [true, false, false, false]
  | 2 => [true, true, false, false, false]
  | 3 => [false, false, false]
  | 4 => [true, false]
  | 5 => [true, true, true, true, true, true, true, false, false]
  | 6 => [true, true, true, false]
  | 7 => [true, true]
  | 8 => [true, true, true, true, true, false, true]
  | 9 => [true, false, true, true, true, true, true, true, true, true, false, false, false, false, true, true, false, false, false, false, true, true, true, true, true, true, true, true, true, true, true, false, true, true, true, true, true, true, true, false, true, true, true, true, false, true, true, true, true, false, true, true, false, true]
  | _ => []
def zmk (b : Nat) (M : Mem) (a : Nat) : Nat → List Bool → List Value
  | _, [] => []
  | j, r :: t => (bif r then va_rf ((M.2.2 a j).map (fun x => b + x)) else .int (M.2.1 a j)) :: zmk b M a (j + 1) t
def zent (b : Nat) (cy : Nat → ClassId) (M : Mem) (a : Nat) : va_E :=
  if zsK a < 10 then .inr (zsK a, zmk b M a 0 (zisR (zsK a)))
  else if zsK a < 13 then .inl (cy (zsK a), zsL a, .inl (M.2.1 a))
  else .inl (cy (zsK a), zsL a, .inr (.inr (.inr (.inr (fun j => (M.2.2 a j).map (fun x => b + x))))))
abbrev ztys (cy : Nat → ClassId) : List (ClassId × FieldType) := [(cy 10, .char), (cy 11, .int), (cy 12, .boolean), (cy 13, .object RX0), (cy 14, .object RX2), (cy 15, .object RX3), (cy 16, .object RX4), (cy 17, .object RX5)]
/-- the changes -/
def zu2 {α : Type} (f : Nat → Nat → α) (a k : Nat) (v : α) : Nat → Nat → α := fun q j => if q = a ∧ j = k then v else f q j
def zwI (M : Mem) (a k : Nat) (v : Int32) : Mem := (M.1, zu2 M.2.1 a k v, M.2.2)
def zwR (M : Mem) (a k : Nat) (v : Option Nat) : Mem := (M.1, M.2.1, zu2 M.2.2 a k v)
def zwA (M : Mem) (a : Nat) (f : Nat → Int32) : Mem := (M.1, (fun q => if q = a then f else M.2.1 q), M.2.2)
def znx (M : Mem) : Mem := (M.1 + 1, (fun q => if q = M.1 then (fun _ => 0) else M.2.1 q), (fun q => if q = M.1 then (fun _ => none) else M.2.2 q))
/-- the accesses: none where the machine would throw, or the cell isn't of that kind -/
def zck (M : Mem) (ci a : Nat) : Option Unit := if a < M.1 ∧ zsK a = ci then some () else none
def zgI (M : Mem) (ci k a : Nat) : Option Int32 := if a < M.1 ∧ zsK a = ci then some (M.2.1 a k) else none
def zgR (M : Mem) (ci k a : Nat) : Option Nat := if a < M.1 ∧ zsK a = ci then M.2.2 a k else none
def zpI (M : Mem) (ci k a : Nat) (v : Int32) : Option Mem := if a < M.1 ∧ zsK a = ci then some (zwI M a k v) else none
def zpZ (M : Mem) (ci k a : Nat) (v : Int32) : Option Mem := if (a < M.1 ∧ zsK a = ci) ∧ (v = 0 ∨ v = 1) then some (zwI M a k v) else none
def zpR (M : Mem) (ci k a v : Nat) : Option Mem := if a < M.1 ∧ zsK a = ci then some (zwR M a k (some v)) else none
def zaI (M : Mem) (kd a : Nat) (i : Int32) : Option Int32 := if (a < M.1 ∧ zsK a = kd) ∧ ¬ (i < 0 ∨ zsL a ≤ i.toNatClampNeg) then some (M.2.1 a i.toNatClampNeg) else none
def zaR (M : Mem) (kd a : Nat) (i : Int32) : Option Nat := if (a < M.1 ∧ zsK a = kd) ∧ ¬ (i < 0 ∨ zsL a ≤ i.toNatClampNeg) then M.2.2 a i.toNatClampNeg else none
def zal (M : Mem) (kd a : Nat) : Option Int32 := if a < M.1 ∧ zsK a = kd then some (Int32.ofNat (zsL a)) else none
def zsI (M : Mem) (a : Nat) (i v : Int32) : Option Mem := if (a < M.1 ∧ zsK a = 11) ∧ ¬ (i < 0 ∨ zsL a ≤ i.toNatClampNeg) then some (zwI M a i.toNatClampNeg v) else none
def zsC (M : Mem) (a : Nat) (i v : Int32) : Option Mem := if (a < M.1 ∧ zsK a = 10) ∧ ¬ (i < 0 ∨ zsL a ≤ i.toNatClampNeg) then some (zwI M a i.toNatClampNeg (vp_nar .char v)) else none
def zsZ (M : Mem) (a : Nat) (i v : Int32) : Option Mem := if (a < M.1 ∧ zsK a = 12) ∧ ¬ (i < 0 ∨ zsL a ≤ i.toNatClampNeg) then some (zwI M a i.toNatClampNeg (vp_nar .boolean v)) else none
def zsR (M : Mem) (kd ce a : Nat) (i : Int32) (v : Nat) : Option Mem := if ((a < M.1 ∧ zsK a = kd) ∧ (v < M.1 ∧ zsK v = ce)) ∧ ¬ (i < 0 ∨ zsL a ≤ i.toNatClampNeg) then some (zwR M a i.toNatClampNeg (some v)) else none
def zcp (M : Mem) (kd a0 : Nat) (sp : Int32) (a : Nat) (dp n : Int32) : Option Mem := if ((a0 < M.1 ∧ zsK a0 = kd) ∧ (a < M.1 ∧ zsK a = kd)) ∧ ((¬ sp < 0 ∧ ¬ dp < 0 ∧ ¬ n < 0) ∧ (sp.toNatClampNeg + n.toNatClampNeg ≤ zsL a0 ∧ dp.toNatClampNeg + n.toNatClampNeg ≤ zsL a)) then some (zwA M a (va_cpy (M.2.1 a0) (M.2.1 a) sp.toNatClampNeg dp.toNatClampNeg n.toNatClampNeg)) else none
/-- a new object or array comes: of the kind that is due there; within the limit -/
def zno (M : Mem) (ci lim : Nat) : Option Mem := if zsK M.1 = ci ∧ M.1 < lim then some (znx M) else none
def zna (M : Mem) (kd : Nat) (n : Int32) (lim : Nat) : Option Mem := if (zsK M.1 = kd ∧ M.1 < lim) ∧ (¬ n < 0 ∧ n.toNatClampNeg = zsL M.1) then some (znx M) else none
def zcg (M0 M : Mem) (k lim : Nat) : Option Unit := if M.1 = M0.1 + k ∧ M0.1 + k ≤ lim then some () else none
def zlt {α β : Type} (x : α) (k : α → Option β) : Option β := k x
def zrt (ty : FieldType) (v : Int32) (M : Mem) : Option (Int32 × Mem) := if vp_nar ty v = v then some (v, M) else none
def zrp (ty : FieldType) (v : Int32) : Option Int32 := if vp_nar ty v = v then some v else none
def znz (x : Int32) : Option Unit := if x = 0 then none else some ()
def zFU : Nat := 5000
/-- the world -/
abbrev zA (b : Nat) : Nat → Prop := fun q => b ≤ q
def zH (D : va_G) (cy : Nat → ClassId) (b : Nat) (M : Mem) (H : Heap) : Prop := (∀ a, a < M.1 → va_at D vwCl (b + a, zent b cy M a) H) ∧ ∀ a j, zsK a = 10 → fits .char (.int (M.2.1 a j)) = true
def znl : List (String × Nat × MethodName) := [(RX2, 21, yX5_init), (RX5, 22, yX3_init), (RX6, 20, yX3_init), (RX1, 17, yX0_init), (RX5, 47, yX8_isClass), (RX6, 86, yX8_isClassLetterOrDot)]
def zao : List String := [RX0, RX2, RX3, RX4, RX5]
def zKs (D : va_G) (cy : Nat → ClassId) (U : State) : Prop := va_K D vwCl (ztys cy) U ∧ (∀ q ∈ znl, va_Nw (.methodLinkNest q.1 q.2.1 q.2.2 RX8) U) ∧ ∀ C ∈ zao, va_AO C U
theorem zKs.warm {D : va_G} {cy : Nat → ClassId} {s U : State} (h : zKs D cy s) (hW : s.WarmedH U.vm) : zKs D cy U :=
  ⟨va_K.moved hW.alike h.1, fun q hq => va_Nw.warmM hW (h.2.1 q hq), fun C hC => va_AO.moved hW.alike (h.2.2 C hC)⟩
theorem zKs.blind {D : va_G} {cy : Nat → ClassId} {U : State} (h : zKs D cy U) (g : JFrame) (mk : MethodId) (a : Array Value) : zKs D cy (U.calling g mk a) :=
  ⟨va_K.moved (u := U) (U := U.calling g mk a) (Vm.Alike.refl U.vm) h.1, fun q hq => va_Nw.same rfl rfl (h.2.1 q hq), fun C hC => va_AO.moved (u := U) (U := U.calling g mk a) (Vm.Alike.refl U.vm) (h.2.2 C hC)⟩
abbrev zPc (D : va_G) (cy : Nat → ClassId) (b : Nat) (M : Mem) (vs : List Value) : Array Value → State → Prop := va_Pc vs (fun U => zH D cy b M U.heap ∧ zKs D cy U)
abbrev zPn (D : va_G) (cy : Nat → ClassId) (b : Nat) (M : Mem) (vs : List Value) : Array Value → State → Prop := va_Pc vs (fun U => zH D cy b M U.heap ∧ zKs D cy U ∧ U.heap.size = b + M.1)
abbrev zPp (vs : List Value) : Array Value → State → Prop := va_Pc vs (fun _ => True)
abbrev zQi (D : va_G) (cy : Nat → ClassId) (b : Nat) (rr : Int32 × Mem) : Array Value → State → Outcome → State → Prop := va_Qi (fun r (_ : Unit) => r = rr.1) (fun _ t => zH D cy b rr.2 t.heap) (zA b)
abbrev zQv (D : va_G) (cy : Nat → ClassId) (b : Nat) (rr : Mem) : Array Value → State → Outcome → State → Prop := va_Qv (fun (_ : Unit) => True) (fun _ t => zH D cy b rr t.heap) (zA b)
abbrev zQr (D : va_G) (cy : Nat → ClassId) (b : Nat) (rr : Nat × Mem) : Array Value → State → Outcome → State → Prop := va_Qr (fun (_ : Unit) => True) (fun _ a t => a = b + rr.1 ∧ zH D cy b rr.2 t.heap) (zA b)
abbrev zQn (D : va_G) (cy : Nat → ClassId) (b : Nat) (rr : Mem) : Array Value → State → Outcome → State → Prop := va_Qv (fun (_ : Unit) => True) (fun _ t => zH D cy b rr t.heap ∧ t.heap.size = b + rr.1) (zA b)
abbrev zQp (r : Int32) : Array Value → State → Outcome → State → Prop := fun _ st oc t => oc = .returned (some (.int r)) ∧ t.heap = st.heap
abbrev zQq : Array Value → State → Outcome → State → Prop := fun _ st oc t => oc = .returned none ∧ t.heap = st.heap
abbrev zNo : Addr → Prop := fun _ => False
theorem zb {α β : Type} {x : Option α} {g : α → Option β} {r : β} (h : x.bind g = some r) : ∃ v, x = some v ∧ g v = some r := by
  cases x with
  | none => cases h
  | some v => exact ⟨v, rfl, h⟩
theorem zlt_s {α β : Type} {x : α} {k : α → Option β} {r : β} (h : zlt x k = some r) : ∃ y, x = y ∧ k y = some r := ⟨x, rfl, h⟩
theorem zmk_len (b : Nat) (M : Mem) (a : Nat) : ∀ (l : List Bool) (j : Nat), (zmk b M a j l).length = l.length
  | [], _ => rfl
  | _ :: t, j => by simp [zmk, zmk_len b M a t (j + 1)]
theorem zmk_get (b : Nat) (M : Mem) (a : Nat) : ∀ (l : List Bool) (j k : Nat), (zmk b M a j l)[k]? = (l[k]?).map (fun r => bif r then va_rf ((M.2.2 a (j + k)).map (fun x => b + x)) else .int (M.2.1 a (j + k)))
  | [], _, _ => by simp [zmk]
  | r :: t, j, 0 => by simp [zmk]
  | r :: t, j, k + 1 => by
    have h := zmk_get b M a t (j + 1) k
    simp only [zmk, List.getElem?_cons_succ]
    rw [h, show j + 1 + k = j + (k + 1) by omega]
theorem zmk_congr {b : Nat} {M M' : Mem} {a : Nat} (h1 : M'.2.1 a = M.2.1 a) (h2 : M'.2.2 a = M.2.2 a) : ∀ (l : List Bool) (j : Nat), zmk b M' a j l = zmk b M a j l
  | [], _ => rfl
  | r :: t, j => by simp only [zmk, h1, h2, zmk_congr h1 h2 t (j + 1)]
theorem zent_congr {b : Nat} {cy : Nat → ClassId} {M M' : Mem} {a : Nat} (h1 : M'.2.1 a = M.2.1 a) (h2 : M'.2.2 a = M.2.2 a) : zent b cy M' a = zent b cy M a := by
  unfold zent
  rw [zmk_congr h1 h2, h1, h2]
theorem zent_o {b : Nat} {cy : Nat → ClassId} {M : Mem} {a ci : Nat} (h : zsK a = ci) (h2 : ci < 10) : zent b cy M a = .inr (ci, zmk b M a 0 (zisR ci)) := by
  subst h
  unfold zent
  rw [if_pos h2]
theorem zent_i {b : Nat} {cy : Nat → ClassId} {M : Mem} {a kd : Nat} (h : zsK a = kd) (h2 : 10 ≤ kd) (h3 : kd < 13) : zent b cy M a = .inl (cy kd, zsL a, .inl (M.2.1 a)) := by
  subst h
  unfold zent
  rw [if_neg (by omega), if_pos h3]
theorem zent_q {b : Nat} {cy : Nat → ClassId} {M : Mem} {a kd : Nat} (h : zsK a = kd) (h2 : 13 ≤ kd) : zent b cy M a = .inl (cy kd, zsL a, .inr (.inr (.inr (.inr (fun j => (M.2.2 a j).map (fun x => b + x)))))) := by
  subst h
  unfold zent
  rw [if_neg (by omega), if_neg (by omega)]
theorem zone {D : va_G} {cl : List vw_C} {a : Nat} {e : va_E} {H : Heap} (h : va_at D cl (a, e) H) : va_P D cl [(a, e)] H := by
  intro k q hk
  match k, hk with
  | 0, hk => cases hk; exact h
  | k + 1, hk => simp at hk
theorem zu2_ne {α : Type} {f : Nat → Nat → α} {a k : Nat} {v : α} {q : Nat} (h : q ≠ a) : zu2 f a k v q = f q := by
  funext j
  simp [zu2, h]
theorem zu2_at {α : Type} {f : Nat → Nat → α} {a k : Nat} {v : α} (j : Nat) : zu2 f a k v a j = if j = k then v else f a j := by
  simp [zu2]
theorem zwI_oth {b : Nat} {cy : Nat → ClassId} {M : Mem} {a k : Nat} {v : Int32} (q : Nat) (h : q ≠ a) : zent b cy (zwI M a k v) q = zent b cy M q := zent_congr (M := M) (M' := zwI M a k v) (zu2_ne h) rfl
theorem zwR_oth {b : Nat} {cy : Nat → ClassId} {M : Mem} {a k : Nat} {v : Option Nat} (q : Nat) (h : q ≠ a) : zent b cy (zwR M a k v) q = zent b cy M q := zent_congr (M := M) (M' := zwR M a k v) rfl (zu2_ne h)
theorem zwA_oth {b : Nat} {cy : Nat → ClassId} {M : Mem} {a : Nat} {f : Nat → Int32} (q : Nat) (h : q ≠ a) : zent b cy (zwA M a f) q = zent b cy M q := zent_congr (M := M) (M' := zwA M a f) (by simp [zwA, h]) rfl
theorem zmk_wI {b : Nat} {M : Mem} {a k : Nat} {v : Int32} {l : List Bool} (hr : l[k]? = some false) : zmk b (zwI M a k v) a 0 l = (zmk b M a 0 l).set k (.int v) := by
  have hl : k < l.length := (List.getElem?_eq_some_iff.mp hr).1
  apply List.ext_getElem?
  intro j
  rw [zmk_get, List.getElem?_set]
  by_cases hj : k = j
  · subst hj
    rw [if_pos rfl, if_pos (by rw [zmk_len]; exact hl), hr]
    simp [zwI, zu2]
  · rw [if_neg hj, zmk_get]
    cases l[j]? with
    | none => rfl
    | some r => cases r <;> simp [zwI, zu2, Ne.symm hj]
theorem zmk_wR {b : Nat} {M : Mem} {a k : Nat} {v : Nat} {l : List Bool} (hr : l[k]? = some true) : zmk b (zwR M a k (some v)) a 0 l = (zmk b M a 0 l).set k (.ref (b + v)) := by
  have hl : k < l.length := (List.getElem?_eq_some_iff.mp hr).1
  apply List.ext_getElem?
  intro j
  rw [zmk_get, List.getElem?_set]
  by_cases hj : k = j
  · subst hj
    rw [if_pos rfl, if_pos (by rw [zmk_len]; exact hl), hr]
    simp [zwR, zu2, va_rf]
  · rw [if_neg hj, zmk_get]
    cases l[j]? with
    | none => rfl
    | some r => cases r <;> simp [zwR, zu2, Ne.symm hj]
theorem zck_s {M : Mem} {ci a : Nat} {v : Unit} (h : zck M ci a = some v) : a < M.1 ∧ zsK a = ci := by
  unfold zck at h
  split at h
  · assumption
  · cases h
theorem zgI_s {M : Mem} {ci k a : Nat} {v : Int32} (h : zgI M ci k a = some v) : (a < M.1 ∧ zsK a = ci) ∧ M.2.1 a k = v := by
  unfold zgI at h
  split at h
  · exact ⟨by assumption, Option.some.inj h⟩
  · cases h
theorem zgR_s {M : Mem} {ci k a v : Nat} (h : zgR M ci k a = some v) : (a < M.1 ∧ zsK a = ci) ∧ M.2.2 a k = some v := by
  unfold zgR at h
  split at h
  · exact ⟨by assumption, h⟩
  · cases h
def zws (b : Nat) (cy : Nat → ClassId) (M : Mem) : va_W := (List.range M.1).map (fun x => (b + x, zent b cy M x))
theorem zws_len {b : Nat} {cy : Nat → ClassId} {M : Mem} : (zws b cy M).length = M.1 := by simp [zws]
theorem zws_get {b : Nat} {cy : Nat → ClassId} {M : Mem} {x : Nat} (h : x < M.1) : (zws b cy M)[x]? = some (b + x, zent b cy M x) := by simp [zws, h]
theorem zws_inv {b : Nat} {cy : Nat → ClassId} {M : Mem} {x : Nat} {q : Nat × va_E} (h : (zws b cy M)[x]? = some q) : x < M.1 ∧ q = (b + x, zent b cy M x) := by
  have hl : x < (zws b cy M).length := (List.getElem?_eq_some_iff.mp h).1
  rw [zws_len] at hl
  exact ⟨hl, (Option.some.inj ((zws_get hl).symm.trans h)).symm⟩
theorem zws_P {D : va_G} {b : Nat} {cy : Nat → ClassId} {M : Mem} {H : Heap} (hP : zH D cy b M H) : va_P D vwCl (zws b cy M) H := by
  intro k q hk
  obtain ⟨h1, rfl⟩ := zws_inv hk
  exact hP.1 k h1
theorem zws_D {b : Nat} {cy : Nat → ClassId} {M : Mem} : va_D (zA b) (zws b cy M) := by
  refine ⟨fun i j p q hi hj h => ?_, fun k q hk => ?_⟩
  · obtain ⟨-, rfl⟩ := zws_inv hi
    obtain ⟨-, rfl⟩ := zws_inv hj
    exact Nat.add_left_cancel h
  · obtain ⟨-, rfl⟩ := zws_inv hk
    exact Nat.le_add_right b k
section ZR
variable {p : Program} {l : Launch} {e : Env} {R : Room} {s : State} {m : MethodId} {args : Array Value} {below : List Frame} {meth : Method} {c : Code} {H : Heap} {locs : List Loc} {cells slots : Nat} {Q : State → Prop}
variable {cc : ByteArray} {pc : Nat} {ls : Array Slot} {rest : List Value} {D : va_G} {cy : Nat → ClassId} {b : Nat} {M M' : Mem} {H0 : Heap}
/-- the value on top under another name -/
theorem zt {x y : Int32} (h : x = y) (k : W p l e R s m args below meth c H locs cells slots Q (F0 m pc ls (.int y :: rest))) : W p l e R s m args below meth c H locs cells slots Q (F0 m pc ls (.int x :: rest)) := by
  subst h
  exact k
theorem zr_gi (hexec : p.tables.exec = Jvm.exec) (hb : c.code = cc) {own C : String} {T : u_T} {N ci k index a : Nat} {v : Int32} {Ts : List Cond} (hts : ∀ w ∈ Ts, w.before args s = true) (hin : ∀ w ∈ u_ws C T N, w ∈ Ts) (hown : s.vm.findClass own = some m.cls) (hK : zKs D cy s) (hP : zH D cy b M H) (hv : zgI M ci k a = some v)
    (hc : vwCl[ci]? = some (C, T, N)) (hr : (zisR ci)[k]? = some false) (hci : ci < 10) (hk : k < N) (hlink : (Cond.fieldLink own index (T k).1 (T k).2.1 (T k).2.2.1).before args s = true) (hdg : decode cc pc = .ok (.getfield index, 3))
    (kk : W p l e R s m args below meth c H locs cells slots Q (F0 m (pc + 3) ls (.int v :: rest))) : W p l e R s m args below meth c H locs cells slots Q (F0 m pc ls (.ref (b + a) :: rest)) := by
  obtain ⟨⟨h1, h2⟩, h3⟩ := zgI_s hv
  have hat := hP.1 a h1
  rw [zent_o h2 hci] at hat
  refine va_get (D := D) (ci := ci) (C := C) (T := T) (N := N) (v := .int v) hexec hb hts hin hown hK.1 (zone hat) 0 rfl hc k hk hlink (fun _ h9 => h9) ?_ hdg kk
  rw [zmk_get, hr]
  simp [h3]
theorem zr_gr (hexec : p.tables.exec = Jvm.exec) (hb : c.code = cc) {own C : String} {T : u_T} {N ci k index a : Nat} {v : Nat} {Ts : List Cond} (hts : ∀ w ∈ Ts, w.before args s = true) (hin : ∀ w ∈ u_ws C T N, w ∈ Ts) (hown : s.vm.findClass own = some m.cls) (hK : zKs D cy s) (hP : zH D cy b M H) (hv : zgR M ci k a = some v)
    (hc : vwCl[ci]? = some (C, T, N)) (hr : (zisR ci)[k]? = some true) (hci : ci < 10) (hk : k < N) (hlink : (Cond.fieldLink own index (T k).1 (T k).2.1 (T k).2.2.1).before args s = true) (hdg : decode cc pc = .ok (.getfield index, 3))
    (kk : W p l e R s m args below meth c H locs cells slots Q (F0 m (pc + 3) ls (.ref (b + v) :: rest))) : W p l e R s m args below meth c H locs cells slots Q (F0 m pc ls (.ref (b + a) :: rest)) := by
  obtain ⟨⟨h1, h2⟩, h3⟩ := zgR_s hv
  have hat := hP.1 a h1
  rw [zent_o h2 hci] at hat
  refine va_get (D := D) (ci := ci) (C := C) (T := T) (N := N) (v := .ref (b + v)) hexec hb hts hin hown hK.1 (zone hat) 0 rfl hc k hk hlink (fun _ h9 => h9) ?_ hdg kk
  rw [zmk_get, hr]
  simp [h3, va_rf]
theorem zr_put (hexec : p.tables.exec = Jvm.exec) (hb : c.code = cc) {own C : String} {T : u_T} {N ci k index a : Nat} {v : Value} {ty : FieldType} {Ts : List Cond} (hts : ∀ w ∈ Ts, w.before args s = true) (hin : ∀ w ∈ u_ws C T N, w ∈ Ts) (ty0 : Nat → FieldType) (hty : ∀ k, k < N → parseFieldDescriptor (T k).2.2.1 = some (ty0 k)) (hnm : ∀ a, a < N → ∀ b, b < N → a ≠ b → (T a).2.1 ≠ (T b).2.1) (hown : s.vm.findClass own = some m.cls) (hK : zKs D cy s) (hP : zH D cy b M H) (hS : va_S (zA b) H0 H locs)
    (ha : a < M.1) (hz : zsK a = ci) (hc : vwCl[ci]? = some (C, T, N)) (hci : ci < 10) (hk : k < N) (hl : k < (zisR ci).length) (hlink : (Cond.fieldLink own index (T k).1 (T k).2.1 (T k).2.2.1).before args s = true) (hfin : (T k).2.2.2 = false ∨ ((T k).2.2.2 = true ∧ meth.name = "<init>" ∧ (T k).1 = own)) (hd : parseFieldDescriptor (T k).2.2.1 = some ty) (hn : narrow ty v = v) (hfit : fits ty v = true)
    (hM1 : M'.1 = M.1) (hself : zmk b M' a 0 (zisR ci) = (zmk b M a 0 (zisR ci)).set k v) (hoth : ∀ q, q ≠ a → zent b cy M' q = zent b cy M q) (hch : ∀ a j, zsK a = 10 → fits .char (.int (M'.2.1 a j)) = true) (hdg : decode cc pc = .ok (.putfield index, 3))
    (kk : ∀ (H1 : Heap) (locs1 : List Loc), zH D cy b M' H1 → H1.size = H.size → va_S (zA b) H0 H1 locs1 → W p l e R s m args below meth c H1 locs1 cells slots Q (F0 m (pc + 3) ls rest)) : W p l e R s m args below meth c H locs cells slots Q (F0 m pc ls (v :: .ref (b + a) :: rest)) := by
  have hap := va_apart (own := own) hts hin ty0 hty hnm hK.1 hc
  have hat := hP.1 a ha
  rw [zent_o hz hci] at hat
  obtain ⟨r, h1, cell, q1, q2, q3, q4⟩ := hat
  have hr : r = (C, T, N) := Option.some.inj (h1.symm.trans hc)
  subst hr
  obtain ⟨hSl, hfc, kC, hkC, hkind⟩ := hK.1.1 ci _ hc
  obtain ⟨cf, kf, fi, f, hi, hsl⟩ := hSl k hk
  have hlay := hts _ (hin _ (u_in_lay hk))
  have hst := (u_facts hfc hkC (u_lays hts hin hk) hi).1
  have fin : ∀ H' : Heap, H'[b + a]? = some (cell.setSlot f.slot v) → H'.size = H.size → (∀ q, q ≠ b + a → H'[q]? = H[q]?) → W p l e R s m args below meth c H' (locs ++ [⟨b + a, f.slot⟩]) cells slots Q (F0 m (pc + 3) ls rest) := by
    intro H' e1 e2 e3
    rw [hsl] at e1 ⊢
    refine kk H' _ ⟨fun q hq => ?_, hch⟩ e2 (hS.put e2 e3 (Nat.le_add_right b a))
    by_cases hqa : q = a
    · subst hqa
      rw [zent_o hz hci, hself]
      exact ⟨_, hc, t_OB.to (V := updV (vp_V (zmk b M q 0 (zisR ci))) k v) ⟨_, e1, q2, q3, t_set q4 hap hk v⟩ (fun j _ => vp_updV_set (by rw [zmk_len]; exact hl) v j)⟩
    · rw [hoth q hqa]
      exact (hP.1 q (hM1 ▸ hq)).kept (e3 (b + q) (by omega))
  unfold u_lay at hlay
  rcases hfin with hfin | ⟨hfin, hin2, hdecl⟩
  · rw [if_neg (by rw [hfin]; decide)] at hlay
    have h6 := u_store hfc hkC hkind hlay hi hd hn hfit
    exact W.putK hexec hb (f := f) ⟨hown, hlink, ⟨_, _, _, hi⟩, hst⟩ (by rw [q2]; exact h6) q1 q3 (by rw [hsl]; exact k2_hasslot (q4 k hk)) rfl rfl hdg fin
  · rw [if_pos hfin] at hlay
    have hcf : m.cls = cf := by
      obtain ⟨_, _, c', _, _, _, -, -, hf', -, -, -, hown2, -⟩ := Cond.laysFinal_spec hlay
      have e1 : c' = cf := by have := hi.symm.trans hf'; simp at this; exact this.1.symm
      rw [hdecl] at hown2
      rw [← e1]; exact Option.some.inj (hown.symm.trans hown2)
    have h6 := u_fits hfc hkC hkind (Or.inr hlay) hi hd hn hfit
    exact W.putFinK hexec hb hown hlink hi hst hcf hin2 (by rw [q2]; exact h6) q1 q3 (by rw [hsl]; exact k2_hasslot (q4 k hk)) rfl rfl hdg fin
theorem zch_o {a k ci : Nat} {v : Int32} (hP : zH D cy b M H) (hz : zsK a = ci) (hci : ci ≠ 10) : ∀ q j, zsK q = 10 → fits .char (.int ((zwI M a k v).2.1 q j)) = true := by
  intro q j h
  have hne : q ≠ a := fun e => hci (by rw [← hz, ← e]; exact h)
  show fits .char (.int (zu2 M.2.1 a k v q j)) = true
  rw [zu2_ne hne]
  exact hP.2 q j h
theorem zr_pi (hexec : p.tables.exec = Jvm.exec) (hb : c.code = cc) {own C : String} {T : u_T} {N ci k index a : Nat} {v : Int32} {Ts : List Cond} (hts : ∀ w ∈ Ts, w.before args s = true) (hin : ∀ w ∈ u_ws C T N, w ∈ Ts) (ty0 : Nat → FieldType) (hty : ∀ k, k < N → parseFieldDescriptor (T k).2.2.1 = some (ty0 k)) (hnm : ∀ a, a < N → ∀ b, b < N → a ≠ b → (T a).2.1 ≠ (T b).2.1) (hown : s.vm.findClass own = some m.cls) (hK : zKs D cy s) (hP : zH D cy b M H) (hS : va_S (zA b) H0 H locs) (hv : zpI M ci k a v = some M')
    (hc : vwCl[ci]? = some (C, T, N)) (hr : (zisR ci)[k]? = some false) (hci : ci < 10) (hk : k < N) (hlink : (Cond.fieldLink own index (T k).1 (T k).2.1 (T k).2.2.1).before args s = true) (hfin : (T k).2.2.2 = false) (hd : parseFieldDescriptor (T k).2.2.1 = some .int) (hdg : decode cc pc = .ok (.putfield index, 3))
    (kk : ∀ (H1 : Heap) (locs1 : List Loc), zH D cy b M' H1 → H1.size = H.size → va_S (zA b) H0 H1 locs1 → W p l e R s m args below meth c H1 locs1 cells slots Q (F0 m (pc + 3) ls rest)) : W p l e R s m args below meth c H locs cells slots Q (F0 m pc ls (.int v :: .ref (b + a) :: rest)) := by
  unfold zpI at hv
  split at hv
  · rename_i hg
    cases hv
    exact zr_put (M' := zwI M a k v) hexec hb hts hin ty0 hty hnm hown hK hP hS hg.1 hg.2 hc hci hk (List.getElem?_eq_some_iff.mp hr).1 hlink (Or.inl hfin) hd rfl rfl rfl (zmk_wI hr) zwI_oth (zch_o hP hg.2 (by omega)) hdg kk
  · cases hv
theorem zr_pz (hexec : p.tables.exec = Jvm.exec) (hb : c.code = cc) {own C : String} {T : u_T} {N ci k index a : Nat} {v : Int32} {Ts : List Cond} (hts : ∀ w ∈ Ts, w.before args s = true) (hin : ∀ w ∈ u_ws C T N, w ∈ Ts) (ty0 : Nat → FieldType) (hty : ∀ k, k < N → parseFieldDescriptor (T k).2.2.1 = some (ty0 k)) (hnm : ∀ a, a < N → ∀ b, b < N → a ≠ b → (T a).2.1 ≠ (T b).2.1) (hown : s.vm.findClass own = some m.cls) (hK : zKs D cy s) (hP : zH D cy b M H) (hS : va_S (zA b) H0 H locs) (hv : zpZ M ci k a v = some M')
    (hc : vwCl[ci]? = some (C, T, N)) (hr : (zisR ci)[k]? = some false) (hci : ci < 10) (hk : k < N) (hlink : (Cond.fieldLink own index (T k).1 (T k).2.1 (T k).2.2.1).before args s = true) (hfin : (T k).2.2.2 = false) (hd : parseFieldDescriptor (T k).2.2.1 = some .boolean) (hdg : decode cc pc = .ok (.putfield index, 3))
    (kk : ∀ (H1 : Heap) (locs1 : List Loc), zH D cy b M' H1 → H1.size = H.size → va_S (zA b) H0 H1 locs1 → W p l e R s m args below meth c H1 locs1 cells slots Q (F0 m (pc + 3) ls rest)) : W p l e R s m args below meth c H locs cells slots Q (F0 m pc ls (.int v :: .ref (b + a) :: rest)) := by
  unfold zpZ at hv
  split at hv
  · rename_i hg
    cases hv
    obtain ⟨hg, h01⟩ := hg
    have hn : narrow .boolean (.int v) = .int v ∧ fits .boolean (.int v) = true := by rcases h01 with rfl | rfl <;> exact ⟨by decide, by decide⟩
    exact zr_put (M' := zwI M a k v) hexec hb hts hin ty0 hty hnm hown hK hP hS hg.1 hg.2 hc hci hk (List.getElem?_eq_some_iff.mp hr).1 hlink (Or.inl hfin) hd hn.1 hn.2 rfl (zmk_wI hr) zwI_oth (zch_o hP hg.2 (by omega)) hdg kk
  · cases hv
theorem zr_pr (hexec : p.tables.exec = Jvm.exec) (hb : c.code = cc) {own C : String} {T : u_T} {N ci k index a v : Nat} {ty : FieldType} {Ts : List Cond} (hts : ∀ w ∈ Ts, w.before args s = true) (hin : ∀ w ∈ u_ws C T N, w ∈ Ts) (ty0 : Nat → FieldType) (hty : ∀ k, k < N → parseFieldDescriptor (T k).2.2.1 = some (ty0 k)) (hnm : ∀ a, a < N → ∀ b, b < N → a ≠ b → (T a).2.1 ≠ (T b).2.1) (hown : s.vm.findClass own = some m.cls) (hK : zKs D cy s) (hP : zH D cy b M H) (hS : va_S (zA b) H0 H locs) (hv : zpR M ci k a v = some M')
    (hc : vwCl[ci]? = some (C, T, N)) (hr : (zisR ci)[k]? = some true) (hci : ci < 10) (hk : k < N) (hlink : (Cond.fieldLink own index (T k).1 (T k).2.1 (T k).2.2.1).before args s = true) (hfin : (T k).2.2.2 = false ∨ ((T k).2.2.2 = true ∧ meth.name = "<init>" ∧ (T k).1 = own)) (hd : parseFieldDescriptor (T k).2.2.1 = some ty) (hn : narrow ty (.ref (b + v)) = .ref (b + v)) (hfit : fits ty (.ref (b + v)) = true) (hdg : decode cc pc = .ok (.putfield index, 3))
    (kk : ∀ (H1 : Heap) (locs1 : List Loc), zH D cy b M' H1 → H1.size = H.size → va_S (zA b) H0 H1 locs1 → W p l e R s m args below meth c H1 locs1 cells slots Q (F0 m (pc + 3) ls rest)) : W p l e R s m args below meth c H locs cells slots Q (F0 m pc ls (.ref (b + v) :: .ref (b + a) :: rest)) := by
  unfold zpR at hv
  split at hv
  · rename_i hg
    cases hv
    exact zr_put (M' := zwR M a k (some v)) hexec hb hts hin ty0 hty hnm hown hK hP hS hg.1 hg.2 hc hci hk (List.getElem?_eq_some_iff.mp hr).1 hlink hfin hd hn hfit rfl (zmk_wR hr) zwR_oth hP.2 hdg kk
  · cases hv
/-- reads of arrays -/
theorem zaI_s {kd a : Nat} {i v : Int32} (h : zaI M kd a i = some v) : (a < M.1 ∧ zsK a = kd) ∧ vp_in i (zsL a) ∧ M.2.1 a i.toNatClampNeg = v := by
  unfold zaI at h
  split at h
  · rename_i hg
    exact ⟨hg.1, hg.2, Option.some.inj h⟩
  · cases h
theorem zr_ai (hexec : p.tables.exec = Jvm.exec) (hb : c.code = cc) (hK : zKs D cy s) (hP : zH D cy b M H) {a : Nat} {i v : Int32} (hv : zaI M 11 a i = some v) (hdg : decode cc pc = .ok (.iaload, 1))
    (kk : W p l e R s m args below meth c H locs cells slots Q (F0 m (pc + 1) ls (.int v :: rest))) : W p l e R s m args below meth c H locs cells slots Q (F0 m pc ls (.int i :: .ref (b + a) :: rest)) := by
  obtain ⟨⟨h1, h2⟩, h3, rfl⟩ := zaI_s hv
  have hat := hP.1 a h1
  rw [zent_i h2 (by omega) (by omega)] at hat
  exact va_iald hexec hb hK.1 (zone hat) 0 1 rfl rfl h3 hdg kk
theorem zr_ac (hexec : p.tables.exec = Jvm.exec) (hb : c.code = cc) (hK : zKs D cy s) (hP : zH D cy b M H) {a : Nat} {i v : Int32} (hv : zaI M 10 a i = some v) (hdg : decode cc pc = .ok (.caload, 1))
    (kk : W p l e R s m args below meth c H locs cells slots Q (F0 m (pc + 1) ls (.int v :: rest))) : W p l e R s m args below meth c H locs cells slots Q (F0 m pc ls (.int i :: .ref (b + a) :: rest)) := by
  obtain ⟨⟨h1, h2⟩, h3, rfl⟩ := zaI_s hv
  have hat := hP.1 a h1
  rw [zent_i h2 (by omega) (by omega)] at hat
  exact va_cald hexec hb hK.1 (zone hat) 0 0 rfl rfl h3 hdg kk
theorem zr_az (hexec : p.tables.exec = Jvm.exec) (hb : c.code = cc) (hK : zKs D cy s) (hP : zH D cy b M H) {a : Nat} {i v : Int32} (hv : zaI M 12 a i = some v) (hdg : decode cc pc = .ok (.baload, 1))
    (kk : W p l e R s m args below meth c H locs cells slots Q (F0 m (pc + 1) ls (.int v :: rest))) : W p l e R s m args below meth c H locs cells slots Q (F0 m pc ls (.int i :: .ref (b + a) :: rest)) := by
  obtain ⟨⟨h1, h2⟩, h3, rfl⟩ := zaI_s hv
  have hat := hP.1 a h1
  rw [zent_i h2 (by omega) (by omega)] at hat
  exact va_zald hexec hb hK.1 (zone hat) 0 2 rfl rfl h3 hdg kk
theorem zr_aa (hexec : p.tables.exec = Jvm.exec) (hb : c.code = cc) (hK : zKs D cy s) (hP : zH D cy b M H) {a kd t0 : Nat} {C : String} {i : Int32} {v : Nat} (hv : zaR M kd a i = some v) (hkd : 13 ≤ kd) (ht : (ztys cy)[t0]? = some (cy kd, .object C)) (hdg : decode cc pc = .ok (.aaload, 1))
    (kk : W p l e R s m args below meth c H locs cells slots Q (F0 m (pc + 1) ls (.ref (b + v) :: rest))) : W p l e R s m args below meth c H locs cells slots Q (F0 m pc ls (.int i :: .ref (b + a) :: rest)) := by
  unfold zaR at hv
  split at hv
  · rename_i hg
    obtain ⟨⟨h1, h2⟩, h3⟩ := hg
    have hat := hP.1 a h1
    rw [zent_q h2 hkd] at hat
    refine va_aldq hexec hb hK.1 (zone hat) 0 t0 rfl ht (n := zsL a) h3 hdg ?_
    rw [hv]
    exact kk
  · cases hv
theorem zal_s {kd a : Nat} {v : Int32} (h : zal M kd a = some v) : (a < M.1 ∧ zsK a = kd) ∧ Int32.ofNat (zsL a) = v := by
  unfold zal at h
  split at h
  · exact ⟨by assumption, Option.some.inj h⟩
  · cases h
theorem zr_al (hexec : p.tables.exec = Jvm.exec) (hb : c.code = cc) (hK : zKs D cy s) (hP : zH D cy b M H) {a kd t0 : Nat} {ty : FieldType} {v : Int32} (hv : zal M kd a = some v) (hkd : 10 ≤ kd) (ht : (ztys cy)[t0]? = some (cy kd, ty)) (hdg : decode cc pc = .ok (.arraylength, 1))
    (kk : W p l e R s m args below meth c H locs cells slots Q (F0 m (pc + 1) ls (.int v :: rest))) : W p l e R s m args below meth c H locs cells slots Q (F0 m pc ls (.ref (b + a) :: rest)) := by
  obtain ⟨⟨h1, h2⟩, h3⟩ := zal_s hv
  have hat := hP.1 a h1
  by_cases hk : kd < 13
  · rw [zent_i h2 hkd hk] at hat
    exact va_alen hexec hb hK.1 (zone hat) 0 t0 rfl ht h3 hdg kk
  · rw [zent_q h2 (by omega)] at hat
    exact va_alen hexec hb hK.1 (zone hat) 0 t0 rfl ht h3 hdg kk
/-- stores into arrays -/
theorem zst {a kd : Nat} {j : Nat} {v : Int32} {H1 : Heap} {loc : Nat} (hP : zH D cy b M H) (hS : va_S (zA b) H0 H locs) (h2 : zsK a = kd) (hk0 : 10 ≤ kd) (hk1 : kd < 13) (hch : ∀ q j, zsK q = 10 → fits .char (.int ((zwI M a loc v).2.1 q j)) = true) (e1 : H1[b + a]? = some ((vp_cell (cy kd) (zsL a, .inl (M.2.1 a))).setSlot loc (.int v))) (oq : ∀ q, q ≠ b + a → H1[q]? = H[q]?) : zH D cy b (zwI M a loc v) H1 := by
  refine ⟨fun q hq => ?_, hch⟩
  by_cases hqa : q = a
  · subst hqa
    rw [zent_i h2 hk0 hk1]
    show H1[b + q]? = some (vp_cell _ _)
    rw [e1, vp_cell_i, vp_cell_i, arrV_store]
    congr 2
    funext i
    simp only [updV, zwI, zu2_at]
    split <;> rfl
  · rw [zwI_oth q hqa]
    exact (hP.1 q hq).kept (oq (b + q) (by omega))
theorem zr_si (hexec : p.tables.exec = Jvm.exec) (hb : c.code = cc) (hK : zKs D cy s) (hP : zH D cy b M H) (hS : va_S (zA b) H0 H locs) {a : Nat} {i v : Int32} (hv : zsI M a i v = some M') (hdg : decode cc pc = .ok (.iastore, 1))
    (kk : ∀ (H1 : Heap) (locs1 : List Loc), zH D cy b M' H1 → H1.size = H.size → va_S (zA b) H0 H1 locs1 → W p l e R s m args below meth c H1 locs1 cells slots Q (F0 m (pc + 1) ls rest)) : W p l e R s m args below meth c H locs cells slots Q (F0 m pc ls (.int v :: .int i :: .ref (b + a) :: rest)) := by
  unfold zsI at hv
  split at hv
  · rename_i hg
    cases hv
    obtain ⟨⟨h1, h2⟩, h3⟩ := hg
    have hat := hP.1 a h1
    rw [zent_i h2 (by omega) (by omega)] at hat
    refine W.iast hexec hb hat ((hK.1.2 1 _ rfl).1 (zsL a) (fun j => .int (M.2.1 a j))) (fun q => by cases q) (by show ¬ (i < 0 ∨ (arrV _ _ _).slots.size ≤ _); rw [arrV_size]; exact h3) rfl rfl hdg fun H1 e1 z oq => ?_
    exact kk H1 _ (zst (j := 0) hP hS h2 (by omega) (by omega) (zch_o hP h2 (by omega)) e1 oq) z (hS.put z oq (Nat.le_add_right b a))
  · cases hv
theorem zr_sz (hexec : p.tables.exec = Jvm.exec) (hb : c.code = cc) (hK : zKs D cy s) (hP : zH D cy b M H) (hS : va_S (zA b) H0 H locs) {a : Nat} {i v : Int32} (hv : zsZ M a i v = some M') (hdg : decode cc pc = .ok (.bastore, 1))
    (kk : ∀ (H1 : Heap) (locs1 : List Loc), zH D cy b M' H1 → H1.size = H.size → va_S (zA b) H0 H1 locs1 → W p l e R s m args below meth c H1 locs1 cells slots Q (F0 m (pc + 1) ls rest)) : W p l e R s m args below meth c H locs cells slots Q (F0 m pc ls (.int v :: .int i :: .ref (b + a) :: rest)) := by
  unfold zsZ at hv
  split at hv
  · rename_i hg
    cases hv
    obtain ⟨⟨h1, h2⟩, h3⟩ := hg
    have hat := hP.1 a h1
    rw [zent_i h2 (by omega) (by omega)] at hat
    refine W.zast hexec hb hat ((hK.1.2 2 _ rfl).1 (zsL a) (fun j => .int (M.2.1 a j))) (fun q => by cases q) (by show ¬ (i < 0 ∨ (arrV _ _ _).slots.size ≤ _); rw [arrV_size]; exact h3) rfl rfl hdg fun H1 e1 z oq => ?_
    exact kk H1 _ (zst (j := 0) hP hS h2 (by omega) (by omega) (zch_o hP h2 (by omega)) e1 oq) z (hS.put z oq (Nat.le_add_right b a))
  · cases hv
theorem zfitc (x : Int32) : fits .char (.int (vp_nar .char x)) = true := by
  have h : vp_nar .char x = (x.toUInt32 % 65536).toInt32 := by
    rw [vp_nar_char]
    apply congrArg UInt32.toInt32
    apply UInt32.toNat_inj.mp
    simp [UInt32.toNat_mod]
  rw [h]
  exact pk_fc x
theorem zr_sc (hexec : p.tables.exec = Jvm.exec) (hb : c.code = cc) (hK : zKs D cy s) (hP : zH D cy b M H) (hS : va_S (zA b) H0 H locs) {a : Nat} {i v : Int32} (hv : zsC M a i v = some M') (hdg : decode cc pc = .ok (.castore, 1))
    (kk : ∀ (H1 : Heap) (locs1 : List Loc), zH D cy b M' H1 → H1.size = H.size → va_S (zA b) H0 H1 locs1 → W p l e R s m args below meth c H1 locs1 cells slots Q (F0 m (pc + 1) ls rest)) : W p l e R s m args below meth c H locs cells slots Q (F0 m pc ls (.int v :: .int i :: .ref (b + a) :: rest)) := by
  unfold zsC at hv
  split at hv
  · rename_i hg
    cases hv
    obtain ⟨⟨h1, h2⟩, h3⟩ := hg
    have hat := hP.1 a h1
    rw [zent_i h2 (by omega) (by omega)] at hat
    refine W.cast hexec hb hat ((hK.1.2 0 _ rfl).1 (zsL a) (fun j => .int (M.2.1 a j))) (fun q => by cases q) (by show ¬ (i < 0 ∨ (arrV _ _ _).slots.size ≤ _); rw [arrV_size]; exact h3) rfl rfl hdg fun H1 e1 z oq => ?_
    refine kk H1 _ (zst (j := 0) hP hS h2 (by omega) (by omega) (fun q j hq => ?_) e1 oq) z (hS.put z oq (Nat.le_add_right b a))
    show fits .char (.int (zu2 M.2.1 a i.toNatClampNeg (vp_nar .char v) q j)) = true
    unfold zu2
    split
    · exact zfitc v
    · exact hP.2 q j hq
  · cases hv
theorem zr_sa (hexec : p.tables.exec = Jvm.exec) (hb : c.code = cc) (hK : zKs D cy s) (hP : zH D cy b M H) (hS : va_S (zA b) H0 H locs) {a kd ce t0 v : Nat} {r : vw_C} {i : Int32} (hv : zsR M kd ce a i v = some M') (hkd : 13 ≤ kd) (hce : ce < 10) (ht : (ztys cy)[t0]? = some (cy kd, .object r.1)) (hc : vwCl[ce]? = some r) (hdg : decode cc pc = .ok (.aastore, 1))
    (kk : ∀ (H1 : Heap) (locs1 : List Loc), zH D cy b M' H1 → H1.size = H.size → va_S (zA b) H0 H1 locs1 → W p l e R s m args below meth c H1 locs1 cells slots Q (F0 m (pc + 1) ls rest)) : W p l e R s m args below meth c H locs cells slots Q (F0 m pc ls (.ref (b + v) :: .int i :: .ref (b + a) :: rest)) := by
  unfold zsR at hv
  split at hv
  · rename_i hg
    cases hv
    obtain ⟨⟨⟨h1, h2⟩, hv1, hv2⟩, h3⟩ := hg
    have hat := hP.1 a h1
    rw [zent_q h2 hkd] at hat
    have hvt := hP.1 v hv1
    rw [zent_o hv2 hce] at hvt
    have hlt : i.toNatClampNeg < zsL a := Nat.not_le.mp fun q => h3 (Or.inr q)
    have h0 : ¬ i < 0 := fun q => h3 (Or.inl q)
    obtain ⟨r', hr', cellV, g1, g2, g3, -⟩ := hvt
    have hcls := (hK.1.1 ce r hc).2
    obtain ⟨kA, comp, k1, k2, k3, -⟩ := (hK.1.2 t0 _ ht).2
    have hcomp : comp = D.1 ce := Option.some.inj (k3.symm.trans hcls.1)
    subst hcomp
    obtain ⟨kC, hkC, -⟩ := hcls.2
    refine W.aast hexec hb hat (fun q h => by cases h) (fun h => by cases h) k1 k2 rfl hkC ⟨h0, by show _ < (arrV _ _ _).slots.size; rw [arrV_size]; exact hlt⟩ g1 (fun q h => by rw [g3] at h; cases h) (by rw [g2]; exact hkC) (by rw [g2]; exact va_assign hcls) rfl rfl hdg fun H1 e1 z oq => ?_
    refine kk H1 _ ⟨fun q hq => ?_, hP.2⟩ z (hS.put z oq (Nat.le_add_right b a))
    by_cases hqa : q = a
    · subst hqa
      rw [zent_q h2 hkd]
      show H1[b + q]? = some (vp_cell _ _)
      rw [e1, vp_cell_q, vp_cell_q, arrV_store]
      congr 2
      funext j
      simp only [updV, zwR, zu2_at]
      split <;> rfl
    · rw [zwR_oth q hqa]
      exact (hP.1 q hq).kept (oq (b + q) (fun e => hqa (Nat.add_left_cancel e)))
  · cases hv
/-- System.arraycopy of ints or chars -/
theorem zr_cp (hexec : p.tables.exec = Jvm.exec) (hb : c.code = cc) (hml : c.maxLocals = ls.size) {own : String} {index : Nat} (hown : s.vm.findClass own = some m.cls) (hlink : (Cond.methodLink own index arraycopyName).before args s = true) (hnat : (Cond.native arraycopyName).before args s = true) (hstat : (Cond.static arraycopyName).before args s = true) (hini : (Cond.initialized "java/lang/System").before args s = true)
    (hK : zKs D cy s) (hP : zH D cy b M H) (hS : va_S (zA b) H0 H locs) {kd t0 a0 a : Nat} {ty : FieldType} {sp dp n : Int32} (hv : zcp M kd a0 sp a dp n = some M') (ht : (ztys cy)[t0]? = some (cy kd, ty)) (hkd : (kd = 10 ∧ ty = .char) ∨ (kd = 11 ∧ ty = .int))
    (hframes : 1 ≤ R.frames) (hlocals : (rest.map fun v => v.category).sum + (nativeFrameWords "java/lang/System" "arraycopy" 5 + 11) ≤ R.locals) (hdg : decode cc pc = .ok (.invokestatic index, 3))
    (kk : ∀ (H1 : Heap) (locs1 : List Loc), zH D cy b M' H1 → va_S (zA b) H0 H1 locs1 → W p l e R s m args below meth c H1 locs1 cells slots Q (F0 m (pc + 3) ls rest)) : W p l e R s m args below meth c H locs cells slots Q (F0 m pc ls (.int n :: .int dp :: .ref (b + a) :: .int sp :: .ref (b + a0) :: rest)) := by
  unfold zcp at hv
  split at hv
  · rename_i hg
    cases hv
    obtain ⟨⟨⟨x1, x2⟩, y1, y2⟩, ⟨n1, n2, n3⟩, m1, m2⟩ := hg
    have hk0 : 10 ≤ kd := by rcases hkd with ⟨h, -⟩ | ⟨h, -⟩ <;> omega
    have hk1 : kd < 13 := by rcases hkd with ⟨h, -⟩ | ⟨h, -⟩ <;> omega
    have hat0 := hP.1 a0 x1
    rw [zent_i x2 hk0 hk1] at hat0
    have hat := hP.1 a y1
    rw [zent_i y2 hk0 hk1] at hat
    have hprim : refKind ty = false := by rcases hkd with ⟨-, h⟩ | ⟨-, h⟩ <;> subst h <;> rfl
    have hfit : ∀ i, i < n.toNatClampNeg → fits ty (.int (M.2.1 a0 (sp.toNatClampNeg + i))) = true := by
      intro i _
      rcases hkd with ⟨h, h'⟩ | ⟨h, h'⟩
      · subst h'; exact hP.2 a0 _ (x2.trans h)
      · subst h'; rfl
    have hch : ∀ q j, zsK q = 10 → fits .char (.int ((zwA M a (va_cpy (M.2.1 a0) (M.2.1 a) sp.toNatClampNeg dp.toNatClampNeg n.toNatClampNeg)).2.1 q j)) = true := by
      intro q j hq
      by_cases hqa : q = a
      · subst hqa
        have hk : kd = 10 := y2.symm.trans hq
        simp only [zwA, if_pos]
        unfold va_cpy
        split
        · exact hP.2 a0 _ (x2.trans hk)
        · exact hP.2 q _ hq
      · simp only [zwA, if_neg hqa]
        exact hP.2 q j hq
    refine va_copyi (A := zA b) (ws := zws b cy M) hexec hb hml hown hlink hnat hstat hini hK.1 (zws_P hP) zws_D hS a0 a t0 t0 (by rw [zws_get x1, zent_i x2 hk0 hk1]) (by rw [zws_get y1, zent_i y2 hk0 hk1]) ht ht hprim n1 n2 n3 m1 m2 hfit hframes hlocals hdg (fun H1 locs1 hP1 _ hS1 => kk H1 locs1 ⟨fun q hq => ?_, hch⟩ hS1)
    by_cases hqa : q = a
    · subst hqa
      have h := hP1 q _ (List.getElem?_set_self (by rw [zws_len]; exact y1))
      rw [zent_i y2 hk0 hk1]
      simp only [zwA, if_pos]
      exact h
    · have h := hP1 q (b + q, zent b cy M q) (by rw [List.getElem?_set_ne (Ne.symm hqa)]; exact zws_get hq)
      rw [zwA_oth q hqa]
      exact h
  · cases hv
/-- the start of a call -/
theorem zp_V {C : String} {T : u_T} {N ci h0 : Nat} {u : Unit} (As : List Value) (hK : zKs D cy s) (hP : zH D cy b M H) (hg : zck M ci h0 = some u) (hc : vwCl[ci]? = some (C, T, N)) (hci : ci < 10) : PreV s H C (b + h0) (zPc D cy b M (.ref (b + h0) :: As)) As := by
  obtain ⟨h1, h2⟩ := zck_s hg
  have hat := hP.1 h0 h1
  rw [zent_o h2 hci] at hat
  exact ⟨fun a U g mk q => ⟨q.1, q.2.1, q.2.2.blind g mk a⟩, va_recv hK.1 (zone hat) (ci := ci) (q0 := 0) hc rfl, fun U hU hW => ⟨rfl, by rw [hU]; exact hP, hK.warm hW⟩⟩
theorem zp_S (As : List Value) (hK : zKs D cy s) (hP : zH D cy b M H) : PreS s H (zPc D cy b M As) As :=
  ⟨fun a U g mk q => ⟨q.1, q.2.1, q.2.2.blind g mk a⟩, fun U hU hW => ⟨rfl, by rw [hU]; exact hP, hK.warm hW⟩⟩
theorem zp_N (As : List Value) (hK : zKs D cy s) (hP : zH D cy b M H) (hz : H.size = b + M.1) : PreS s H (zPn D cy b M As) As :=
  ⟨fun a U g mk q => ⟨q.1, q.2.1, q.2.2.1.blind g mk a, q.2.2.2⟩, fun U hU hW => ⟨rfl, by rw [hU]; exact hP, hK.warm hW, by rw [hU]; exact hz⟩⟩
theorem zp_p (As : List Value) : PreS s H (zPp As) As := ⟨fun _ _ _ _ q => ⟨q.1, trivial⟩, fun _ _ _ => ⟨rfl, trivial⟩⟩
/-- behind a call -/
theorem zc_i {mc ms : Nat} {rr : Int32 × Mem} {a : Array Value} {st0 : List Value} (hS : va_S (zA b) H0 H locs) (hr : va_Run p l e R s m args below meth c H locs cells slots mc ms (F0 m pc ls st0) rest (zQi D cy b rr a) (zA b))
    (kk : ∀ (H1 : Heap) (locs1 : List Loc), zH D cy b rr.2 H1 → va_S (zA b) H0 H1 locs1 → W p l e R s m args below meth c H1 locs1 (cells + mc) (slots + ms) Q (F0 m (pc + 3) ls (.int rr.1 :: rest))) : W p l e R s m args below meth c H locs cells slots Q (F0 m pc ls st0) := by
  refine va_calli hr hS (fun q _ h => h) (fun q h => h) (fun r u t H1 locs1 ht hvm hw hB hz hk hS1 => ?_)
  subst hw
  subst ht
  exact kk _ locs1 hB hS1
theorem zc_v {mc ms : Nat} {rr : Mem} {a : Array Value} {st0 : List Value} (hS : va_S (zA b) H0 H locs) (hr : va_Run p l e R s m args below meth c H locs cells slots mc ms (F0 m pc ls st0) rest (zQv D cy b rr a) (zA b))
    (kk : ∀ (H1 : Heap) (locs1 : List Loc), zH D cy b rr H1 → va_S (zA b) H0 H1 locs1 → W p l e R s m args below meth c H1 locs1 (cells + mc) (slots + ms) Q (F0 m (pc + 3) ls rest)) : W p l e R s m args below meth c H locs cells slots Q (F0 m pc ls st0) := by
  refine va_callv hr hS (fun q _ h => h) (fun q h => h) (fun u t H1 locs1 ht hvm hw hB hz hk hS1 => ?_)
  subst ht
  exact kk _ locs1 hB hS1
theorem zc_n {mc ms : Nat} {rr : Mem} {a : Array Value} {st0 : List Value} (hS : va_S (zA b) H0 H locs) (hr : va_Run p l e R s m args below meth c H locs cells slots mc ms (F0 m pc ls st0) rest (zQn D cy b rr a) (zA b))
    (kk : ∀ (H1 : Heap) (locs1 : List Loc), zH D cy b rr H1 → H1.size = b + rr.1 → va_S (zA b) H0 H1 locs1 → W p l e R s m args below meth c H1 locs1 (cells + mc) (slots + ms) Q (F0 m (pc + 3) ls rest)) : W p l e R s m args below meth c H locs cells slots Q (F0 m pc ls st0) := by
  refine va_callv hr hS (fun q _ h => h) (fun q h => h) (fun u t H1 locs1 ht hvm hw hB hz hk hS1 => ?_)
  subst ht
  exact kk _ locs1 hB.1 hB.2 hS1
theorem zc_r {mc ms : Nat} {rr : Nat × Mem} {a : Array Value} {st0 : List Value} (hS : va_S (zA b) H0 H locs) (hr : va_Run p l e R s m args below meth c H locs cells slots mc ms (F0 m pc ls st0) rest (zQr D cy b rr a) (zA b))
    (kk : ∀ (H1 : Heap) (locs1 : List Loc), zH D cy b rr.2 H1 → va_S (zA b) H0 H1 locs1 → W p l e R s m args below meth c H1 locs1 (cells + mc) (slots + ms) Q (F0 m (pc + 3) ls (.ref (b + rr.1) :: rest))) : W p l e R s m args below meth c H locs cells slots Q (F0 m pc ls st0) := by
  refine va_callr hr hS (fun q _ h => h) (fun q h => h) (fun u q t H1 locs1 ht hvm hw hB hz hk hS1 => ?_)
  obtain ⟨rfl, hB⟩ := hB
  subst ht
  exact kk _ locs1 hB hS1
theorem zc_p {r : Int32} {a : Array Value} {st0 : List Value} (hr : va_Run p l e R s m args below meth c H locs cells slots 0 0 (F0 m pc ls st0) rest (zQp r a) zNo)
    (kk : W p l e R s m args below meth c H locs cells slots Q (F0 m (pc + 3) ls (.int r :: rest))) : W p l e R s m args below meth c H locs cells slots Q (F0 m pc ls st0) := by
  intro T hT X
  obtain ⟨v, st₀, t, T', L, h0, X', hL, e1, e2, ⟨hv, hh⟩, st⟩ := hr T hT X
  cases hv
  have hL0 : L = [] := List.eq_nil_iff_forall_not_mem.mpr hL
  subst hL0
  rw [List.append_nil] at X'
  obtain ⟨t2, a1, b1⟩ := kk T' (by rw [e1, hh, h0]) X'
  exact ⟨t2, st t2 a1, b1⟩
theorem zc_q {a : Array Value} {st0 : List Value} (hr : va_Run p l e R s m args below meth c H locs cells slots 0 0 (F0 m pc ls st0) rest (zQq a) zNo)
    (kk : W p l e R s m args below meth c H locs cells slots Q (F0 m (pc + 3) ls rest)) : W p l e R s m args below meth c H locs cells slots Q (F0 m pc ls st0) := by
  intro T hT X
  obtain ⟨v, st₀, t, T', L, h0, X', hL, e1, e2, ⟨hv, hh⟩, st⟩ := hr T hT X
  cases hv
  have hL0 : L = [] := List.eq_nil_iff_forall_not_mem.mpr hL
  subst hL0
  rw [List.append_nil] at X'
  obtain ⟨t2, a1, b1⟩ := kk T' (by rw [e1, hh, h0]) X'
  exact ⟨t2, st t2 a1, b1⟩
/-- returns -/
theorem zret_i (hexec : p.tables.exec = Jvm.exec) (hb : c.code = cc) (hr : meth.sig.returnType = some .int) (hlocks : meth.locks = false) {v : Int32} {rr : Int32 × Mem} (hf : some (v, M) = some rr) (hP : zH D cy b M H) (hS : va_S (zA b) s.heap H locs) (hdg : decode cc pc = .ok (.ireturn, 1)) : W p l e R s m args below meth c H locs cells slots (MQ below (zQi D cy b rr) args s cells slots (zA b)) (F0 m pc ls [.int v]) := by
  cases hf
  exact W.iret hexec hb hr (fun t ht _ => ⟨⟨v, (), rfl, rfl, by subst ht; exact hP⟩, hS.F ht⟩) hS.2.2 hdg hlocks
theorem zret_z (hexec : p.tables.exec = Jvm.exec) (hb : c.code = cc) {ty : FieldType} (hr : meth.sig.returnType = some ty) (hty : ty = .boolean ∨ ty = .char) (hlocks : meth.locks = false) {v : Int32} {rr : Int32 × Mem} (hf : zrt ty v M = some rr) (hP : zH D cy b M H) (hS : va_S (zA b) s.heap H locs) (hdg : decode cc pc = .ok (.ireturn, 1)) : W p l e R s m args below meth c H locs cells slots (MQ below (zQi D cy b rr) args s cells slots (zA b)) (F0 m pc ls [.int v]) := by
  unfold zrt at hf
  split at hf
  · rename_i hn
    cases hf
    have hn2 : narrow ty (.int v) = .int v := by
      rcases hty with rfl | rfl
      · exact congrArg Value.int hn
      · exact congrArg Value.int hn
    exact W.zret hexec hb hr hn2 (fun t ht _ => ⟨⟨v, (), rfl, rfl, by subst ht; exact hP⟩, hS.F ht⟩) hS.2.2 hdg hlocks
  · cases hf
theorem zret_v (hexec : p.tables.exec = Jvm.exec) (hb : c.code = cc) (hr : meth.sig.returnType = none) (hlocks : meth.locks = false) {rr : Mem} (hf : some M = some rr) (hP : zH D cy b M H) (hS : va_S (zA b) s.heap H locs) (hdg : decode cc pc = .ok (.return_, 1)) : W p l e R s m args below meth c H locs cells slots (MQ below (zQv D cy b rr) args s cells slots (zA b)) (F0 m pc ls []) := by
  cases hf
  exact W.vret hexec hb hr (fun t ht _ => ⟨⟨(), rfl, trivial, by subst ht; exact hP⟩, hS.F ht⟩) hS.2.2 hdg hlocks
theorem zret_n (hexec : p.tables.exec = Jvm.exec) (hb : c.code = cc) (hr : meth.sig.returnType = none) (hlocks : meth.locks = false) {rr : Mem} (hf : some M = some rr) (hP : zH D cy b M H) (hz : H.size = b + M.1) (hS : va_S (zA b) s.heap H locs) (hdg : decode cc pc = .ok (.return_, 1)) : W p l e R s m args below meth c H locs cells slots (MQ below (zQn D cy b rr) args s cells slots (zA b)) (F0 m pc ls []) := by
  cases hf
  exact W.vret hexec hb hr (fun t ht _ => ⟨⟨(), rfl, trivial, by rw [ht]; exact hP, by rw [ht]; exact hz⟩, hS.F ht⟩) hS.2.2 hdg hlocks
theorem zret_r (hexec : p.tables.exec = Jvm.exec) (hb : c.code = cc) {rt : FieldType} (hr : meth.sig.returnType = some rt) (hrt : (∃ n, rt = .object n) ∨ ∃ t, rt = .array t) (hlocks : meth.locks = false) {v : Nat} {rr : Nat × Mem} (hf : some (v, M) = some rr) (hP : zH D cy b M H) (hS : va_S (zA b) s.heap H locs) (hdg : decode cc pc = .ok (.areturn, 1)) : W p l e R s m args below meth c H locs cells slots (MQ below (zQr D cy b rr) args s cells slots (zA b)) (F0 m pc ls [.ref (b + v)]) := by
  cases hf
  exact W.aret hexec hb hr hrt (Or.inr ⟨_, rfl⟩) (fun t ht _ => ⟨⟨(), b + v, rfl, trivial, rfl, by rw [ht]; exact hP⟩, hS.F ht⟩) hS.2.2 hdg hlocks
theorem zret_pi (hexec : p.tables.exec = Jvm.exec) (hb : c.code = cc) (hr : meth.sig.returnType = some .int) (hlocks : meth.locks = false) {v : Int32} {rr : Int32} (hf : some v = some rr) (hdg : decode cc pc = .ok (.ireturn, 1)) : W p l e R s m args below meth c s.heap [] cells slots (MQ below (zQp rr) args s cells slots zNo) (F0 m pc ls [.int v]) := by
  cases hf
  exact W.iret hexec hb hr (fun t ht _ => ⟨rfl, ht⟩) (fun q h => by cases h) hdg hlocks
theorem zret_pz (hexec : p.tables.exec = Jvm.exec) (hb : c.code = cc) {ty : FieldType} (hr : meth.sig.returnType = some ty) (hty : ty = .boolean ∨ ty = .char) (hlocks : meth.locks = false) {v : Int32} {rr : Int32} (hf : zrp ty v = some rr) (hdg : decode cc pc = .ok (.ireturn, 1)) : W p l e R s m args below meth c s.heap [] cells slots (MQ below (zQp rr) args s cells slots zNo) (F0 m pc ls [.int v]) := by
  unfold zrp at hf
  split at hf
  · rename_i hn
    cases hf
    have hn2 : narrow ty (.int v) = .int v := by
      rcases hty with rfl | rfl
      · exact congrArg Value.int hn
      · exact congrArg Value.int hn
    exact W.zret hexec hb hr hn2 (fun t ht _ => ⟨rfl, ht⟩) (fun q h => by cases h) hdg hlocks
  · cases hf
theorem zret_pv (hexec : p.tables.exec = Jvm.exec) (hb : c.code = cc) (hr : meth.sig.returnType = none) (hlocks : meth.locks = false) (hdg : decode cc pc = .ok (.return_, 1)) : W p l e R s m args below meth c s.heap [] cells slots (MQ below zQq args s cells slots zNo) (F0 m pc ls []) :=
  W.vret hexec hb hr (fun t ht _ => ⟨rfl, ht⟩) (fun q h => by cases h) hdg hlocks
/-- new objects and arrays -/
theorem zgrow {H1 : Heap} (hP : zH D cy b M H) (hz : H.size = b + M.1) (hS : va_S (zA b) H0 H locs) (o1 : ∀ q, q < H.size → H1[q]? = H[q]?) (z1 : H1.size = H.size + 1) (hat : va_at D vwCl (b + M.1, zent b cy (znx M) M.1) H1) : zH D cy b (znx M) H1 ∧ H1.size = b + (znx M).1 ∧ va_S (zA b) H0 H1 locs := by
  refine ⟨⟨fun q hq => ?_, fun q j hq => ?_⟩, by rw [z1, hz]; rfl, Nat.le_trans hS.1 (by omega), fun q h1 h2 => (o1 q (Nat.lt_of_lt_of_le h1 hS.1)).trans (hS.2.1 q h1 h2), hS.2.2⟩
  · by_cases hqa : q = M.1
    · subst hqa
      exact hat
    · have hlt : q < M.1 := by
        have : q < M.1 + 1 := hq
        omega
      rw [zent_congr (M := M) (M' := znx M) (by simp [znx, hqa]) (by simp [znx, hqa])]
      have hold := hP.1 q hlt
      exact hold.kept (o1 (b + q) hold.lt)
  · by_cases hqa : q = M.1
    · subst hqa
      simp only [znx, if_pos]
      rfl
    · simp only [znx, if_neg hqa]
      exact hP.2 q j hq
theorem zr_no (hexec : p.tables.exec = Jvm.exec) (hb : c.code = cc) {own C : String} {T : u_T} {N ci index lim : Nat} {Ts : List Cond} (hts : ∀ w ∈ Ts, w.before args s = true) (hin : ∀ w ∈ u_ws C T N, w ∈ Ts) (ty : Nat → FieldType) (hty : ∀ k, k < N → parseFieldDescriptor (T k).2.2.1 = some (ty k)) (hown : s.vm.findClass own = some m.cls) (hcl : (Cond.classLink own index C).before args s = true) (hinst : (Cond.instantiable C N).before args s = true) (hini : (Cond.initialized C).before args s = true)
    (hK : zKs D cy s) (hP : zH D cy b M H) (hz : H.size = b + M.1) (hS : va_S (zA b) H0 H locs) (hv : zno M ci lim = some M') (hc : vwCl[ci]? = some (C, T, N)) (hci : ci < 10) (hfs : ∀ j, j < N → defaultValue (ty j) = vp_V (zmk b (0, (fun _ _ => 0), (fun _ _ => none)) 0 0 (zisR ci)) j) (hcells : M.1 < lim → cells + 1 ≤ R.cells) (hslots : M.1 < lim → slots + N ≤ R.slots) (hdg : decode cc pc = .ok (.new index, 3))
    (kk : ∀ (H1 : Heap), zH D cy b M' H1 → H1.size = b + M'.1 → va_S (zA b) H0 H1 locs → M'.1 = M.1 + 1 → M.1 < lim → W p l e R s m args below meth c H1 locs (cells + 1) (slots + N) Q (F0 m (pc + 3) ls (.ref (b + M.1) :: rest))) : W p l e R s m args below meth c H locs cells slots Q (F0 m pc ls rest) := by
  unfold zno at hv
  split at hv
  · rename_i hg
    cases hv
    have hKn := hK.1.1 ci _ hc
    refine W.newcK hexec hb hown hcl hinst hini rfl hdg (hcells hg.2) (hslots hg.2) hKn.2.1 rfl fun H1 kC hkC e1 z1 o1 => ?_
    have hat : va_at D vwCl (b + M.1, zent b cy (znx M) M.1) H1 := by
      rw [zent_o hg.1 hci]
      refine ⟨_, hc, (u_born ty hts hin hKn hkC (by rw [← hz]; exact e1) hty).to (fun j hj => ?_)⟩
      rw [hfs j hj]
      have e : zmk b (znx M) M.1 0 (zisR ci) = zmk b (0, (fun _ _ => 0), (fun _ _ => none)) 0 0 (zisR ci) := by
        apply List.ext_getElem?
        intro k
        rw [zmk_get, zmk_get]
        simp [znx]
      rw [e]
    obtain ⟨g1, g2, g3⟩ := zgrow hP hz hS o1 z1 hat
    have h := kk H1 g1 g2 g3 rfl hg.2
    rw [← hz] at h
    exact h
  · cases hv
theorem zr_na (hexec : p.tables.exec = Jvm.exec) (hb : c.code = cc) {atype : ArrayType} {ty : FieldType} (hty : newarray.typeOf atype = ty) (harr : (Cond.arrayClass ty).before args s = true) {kd t0 lim : Nat} {n : Int32}
    (hK : zKs D cy s) (hP : zH D cy b M H) (hz : H.size = b + M.1) (hS : va_S (zA b) H0 H locs) (hv : zna M kd n lim = some M') (ht : (ztys cy)[t0]? = some (cy kd, ty)) (hkd : (kd = 10 ∧ ty = .char) ∨ (kd = 11 ∧ ty = .int) ∨ (kd = 12 ∧ ty = .boolean)) (hLmax : zsL M.1 ≤ 3000) (hcells : M.1 < lim → cells + 1 ≤ R.cells) (hslots : M.1 < lim → slots + 3000 ≤ R.slots) (hdg : decode cc pc = .ok (.newarray atype, 2))
    (kk : ∀ (H1 : Heap), zH D cy b M' H1 → H1.size = b + M'.1 → va_S (zA b) H0 H1 locs → M'.1 = M.1 + 1 → M.1 < lim → W p l e R s m args below meth c H1 locs (cells + 1) (slots + 3000) Q (F0 m (pc + 2) ls (.ref (b + M.1) :: rest))) : W p l e R s m args below meth c H locs cells slots Q (F0 m pc ls (.int n :: rest)) := by
  unfold zna at hv
  split at hv
  · rename_i hg
    cases hv
    obtain ⟨⟨g1, g2⟩, g3, g4⟩ := hg
    subst hty
    have hk0 : 10 ≤ kd := by rcases hkd with ⟨h, -⟩ | ⟨h, -⟩ | ⟨h, -⟩ <;> omega
    have hk1 : kd < 13 := by rcases hkd with ⟨h, -⟩ | ⟨h, -⟩ | ⟨h, -⟩ <;> omega
    have hdv : defaultValue (newarray.typeOf atype) = .int 0 := by rcases hkd with ⟨-, h⟩ | ⟨-, h⟩ | ⟨-, h⟩ <;> rw [h] <;> rfl
    have hcb : componentBytes (newarray.typeOf atype) ≤ 8 := by rcases hkd with ⟨-, h⟩ | ⟨-, h⟩ | ⟨-, h⟩ <;> rw [h] <;> decide
    refine va_newaK (N := zsL M.1) hexec hb harr rfl hdg rfl g3 g4 (by have := Nat.mul_le_mul hLmax hcb; omega) (hcells g2) (by have := hslots g2; omega) rfl fun H1 cA e1 z1 o1 hAr hNm => ?_
    have hcA : cA = cy kd := by
      have h2 := (hK.1.2 t0 _ ht).2
      rcases hkd with ⟨-, h⟩ | ⟨-, h⟩ | ⟨-, h⟩ <;> rw [h] at h2 hNm <;> exact Option.some.inj (hNm.symm.trans h2)
    subst hcA
    have hat : va_at D vwCl (b + M.1, zent b cy (znx M) M.1) H1 := by
      rw [zent_i g1 hk0 hk1]
      show H1[b + M.1]? = some (vp_cell _ _)
      rw [← hz, e1, hdv, vp_cell_i]
      simp [znx]
    obtain ⟨q1, q2, q3⟩ := zgrow hP hz hS o1 z1 hat
    have h := kk H1 q1 q2 q3 rfl g2
    rw [← hz] at h
    exact W.widen (Nat.le_refl _) (by omega) h
  · cases hv
theorem zr_nq (hexec : p.tables.exec = Jvm.exec) (hb : c.code = cc) {own C : String} {index kd t0 lim : Nat} {n : Int32} (hown : s.vm.findClass own = some m.cls) (hclink : (Cond.classLink own index C).before args s = true) (hao : C ∈ zao)
    (hK : zKs D cy s) (hP : zH D cy b M H) (hz : H.size = b + M.1) (hS : va_S (zA b) H0 H locs) (hv : zna M kd n lim = some M') (ht : (ztys cy)[t0]? = some (cy kd, .object C)) (hkd : 13 ≤ kd) (hLmax : zsL M.1 ≤ 3000) (hcells : M.1 < lim → cells + 1 ≤ R.cells) (hslots : M.1 < lim → slots + 3000 ≤ R.slots) (hdg : decode cc pc = .ok (.anewarray index, 3))
    (kk : ∀ (H1 : Heap), zH D cy b M' H1 → H1.size = b + M'.1 → va_S (zA b) H0 H1 locs → M'.1 = M.1 + 1 → M.1 < lim → W p l e R s m args below meth c H1 locs (cells + 1) (slots + 3000) Q (F0 m (pc + 3) ls (.ref (b + M.1) :: rest))) : W p l e R s m args below meth c H locs cells slots Q (F0 m pc ls (.int n :: rest)) := by
  unfold zna at hv
  split at hv
  · rename_i hg
    cases hv
    obtain ⟨⟨g1, g2⟩, g3, g4⟩ := hg
    refine W.anew hexec hb hown hclink (va_AO.use (hK.2.2 C hao)) rfl hdg rfl g3 (by rw [g4]; omega) (hcells g2) (by have := hslots g2; omega) fun cA kA comp f1 f2 f3 f4 => ?_
    obtain ⟨kA', comp', -, -, -, f5⟩ := (hK.1.2 t0 _ ht).2
    have hcA : cA = cy kd := Option.some.inj (f1.symm.trans f5)
    subst hcA
    generalize hH1 : H.push ({ cls := cy kd, slots := Array.replicate n.toNatClampNeg .null, vm := .none } : Cell) = H1
    have z1 : H1.size = H.size + 1 := by rw [← hH1, Array.size_push]
    have e1 : H1[H.size]? = some (arrV (cy kd) n.toNatClampNeg (fun _ => .null)) := by rw [← hH1, Array.getElem?_push_size, ← arrV_new]
    have o1 : ∀ q : Nat, q < H.size → H1[q]? = H[q]? := fun q hq => by rw [← hH1, Array.getElem?_push, if_neg (Nat.ne_of_lt hq)]
    have hat : va_at D vwCl (b + M.1, zent b cy (znx M) M.1) H1 := by
      rw [zent_q g1 hkd]
      show H1[b + M.1]? = some (vp_cell _ _)
      rw [← hz, e1, vp_cell_q, g4]
      simp [znx, va_rf]
    obtain ⟨q1, q2, q3⟩ := zgrow hP hz hS o1 z1 hat
    have h := kk H1 q1 q2 q3 rfl g2
    rw [← hz] at h
    exact W.widen (Nat.le_refl _) (by omega) h
  · cases hv
end ZR
theorem zpI_n {M M' : Mem} {ci k a : Nat} {v : Int32} (h : zpI M ci k a v = some M') : M'.1 = M.1 := by
  unfold zpI at h
  split at h
  · cases h; rfl
  · cases h
theorem zpR_n {M M' : Mem} {ci k a v : Nat} (h : zpR M ci k a v = some M') : M'.1 = M.1 := by
  unfold zpR at h
  split at h
  · cases h; rfl
  · cases h
theorem zpZ_n {M M' : Mem} {ci k a : Nat} {v : Int32} (h : zpZ M ci k a v = some M') : M'.1 = M.1 := by
  unfold zpZ at h
  split at h
  · cases h; rfl
  · cases h
theorem zsI_n {M M' : Mem} {a : Nat} {i v : Int32} (h : zsI M a i v = some M') : M'.1 = M.1 := by
  unfold zsI at h
  split at h
  · cases h; rfl
  · cases h
theorem zsR_n {M M' : Mem} {kd ce a v : Nat} {i : Int32} (h : zsR M kd ce a i v = some M') : M'.1 = M.1 := by
  unfold zsR at h
  split at h
  · cases h; rfl
  · cases h
theorem zcg_s {M0 M : Mem} {k lim : Nat} {u : Unit} (h : zcg M0 M k lim = some u) : M.1 = M0.1 + k ∧ M0.1 + k ≤ lim := by
  unfold zcg at h
  split at h
  · assumption
  · cases h
theorem znz_s {x : Int32} {u : Unit} (h : znz x = some u) : ¬ x = 0 := by
  unfold znz at h
  split at h
  · cases h
  · assumption
/-- a loop: at most so many rounds -/
def zit {α : Type} (bot : α) (F : α → α) : Nat → α
  | 0 => bot
  | n + 1 => F (zit bot F n)
