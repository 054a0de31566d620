theorem zMetF {l : Launch} {y : MethodName} {ws ws' : List Cond} {rm : Room} {Pc : Array Value → State → Prop} {Qc : Array Value → State → Outcome → State → Prop} {mc ms : Nat} {free : Addr → Prop} {cc : ByteArray} {maxL : Nat} {ret : Option FieldType}
    (hy : plainFor y = true) (hw : ws = Cond.code y cc maxL ret :: ws')
    (body : ∀ p e s m args below meth c s₁, BodyLoose p l y (headSpec ws rm) cc maxL ret e s m args below meth c s₁ → c.maxLocals = maxL → Pc args s →
      W p l e (headSpec ws rm).room s m args below meth c s.heap [] 0 0 (MQ below Qc args s mc ms free) (entryFrame m args maxL)) : Met l y ws rm Pc Qc mc ms free := by
  refine MetFree.of_bodySF (code := cc) (maxLocals := maxL) (ret := ret) hy ?_ ?_
  · intro args s m h hn
    obtain ⟨meth, c, h1, h2, h3, h4, h5, h6, -, -⟩ := Cond.code_spec hn (atoms_spec (ws := ws) h _ (by rw [hw]; exact List.mem_cons_self))
    exact ⟨meth, c, h1, h2, h3, h4, h5, h6⟩
  · intro p e s m args below meth c s₁ B hml hP _
    have hh0 : s₁.heap = s.heap := by rw [B.state]; rfl
    obtain ⟨t, a1, o, b1, b2, b3⟩ := body p e s m args below meth c s₁ B hml hP s₁ hh0 (Stand.of_body B)
    exact ⟨t, o, a1, b1, b2, ⟨b3.1, b3.2⟩⟩
theorem ztab {x : Int32} {hi : Nat} (hhi : hi < 2 ^ 31) (h : ∀ k : Nat, k ≤ hi → ¬ x = nI k) : x.toInt < 0 ∨ (hi : Int) < x.toInt := by
  by_cases h0 : x < 0
  · exact Or.inl (by simpa using Int32.lt_iff_toInt_lt.mp h0)
  · obtain ⟨j, hj, rfl⟩ := nI_of h0
    right
    rw [nI_toInt hj]
    by_cases hle : j ≤ hi
    · exact absurd rfl (h j hle)
    · omega
def fJ9_floorMod_7cf53 (p0 : Int32) (p1 : Int32) : Option Int32 :=
  (znz p1).bind (fun u2 => zlt (p0 - p0 / p1 * p1) (fun x2_3 => if 0 ≤ (p0 ^^^ p1) then (some x2_3) else (if x2_3 = 0 then (some x2_3) else (some (x2_3 + p1)))))
def fJ7_rangeCheck_23922 (p0 : Int32) (p1 : Int32) (p2 : Int32) : Option Unit :=
  if p1 ≤ p2 then (if 0 ≤ p1 then (if p2 ≤ p0 then (some ()) else (none)) else (none)) else (none)
def fJ7_fill_53178_5  (k5 : Mem → Nat → Int32 → Int32 → Int32 → Option Mem) (M : Mem) (h0 : Nat) (x1 : Int32) (x2 : Int32) (x3 : Int32) : Option Mem :=
  if x3 ≤ x2 then (some M) else ((zsI M h0 x2 x1).bind (fun M13 => zlt (x2 + (1 : Int32)) (fun x2_14 => k5 M13 h0 x1 x2_14 x3)))
def fJ7_fill_53178_5L  (n : Nat) : Mem → Nat → Int32 → Int32 → Int32 → Option Mem := zit (fun _ _ _ _ _ => none) (fJ7_fill_53178_5 ) n
def fJ7_fill_53178 (M0 : Mem) (p0 : Nat) (p1 : Int32) : Option Mem :=
  (zal M0 11 p0).bind (fun v3 => fJ7_fill_53178_5L  zFU M0 p0 p1 (0 : Int32) v3)
def fJ7_fill_fda19_10  (k10 : Mem → Nat → Int32 → Int32 → Int32 → Option Mem) (M : Mem) (h0 : Nat) (x2 : Int32) (x3 : Int32) (x4 : Int32) : Option Mem :=
  if x2 ≤ x4 then (some M) else ((zsI M h0 x4 x3).bind (fun M20 => zlt (x4 + (1 : Int32)) (fun x4_21 => k10 M20 h0 x2 x3 x4_21)))
def fJ7_fill_fda19_10L  (n : Nat) : Mem → Nat → Int32 → Int32 → Int32 → Option Mem := zit (fun _ _ _ _ _ => none) (fJ7_fill_fda19_10 ) n
def fJ7_fill_fda19 (M0 : Mem) (p0 : Nat) (p1 : Int32) (p2 : Int32) (p3 : Int32) : Option Mem :=
  (zal M0 11 p0).bind (fun v1 => (fJ7_rangeCheck_23922 v1 p1 p2).bind (fun u4 => fJ7_fill_fda19_10L  zFU M0 p0 p2 p3 p1))
def fX3_init (M0 : Mem) (p0 : Nat) : Option Mem :=
  some M0
def fX3_become (M0 : Mem) (p0 : Nat) (p1 : Int32) (p2 : Int32) (p3 : Int32) : Option Mem :=
  (zpI M0 3 0 p0 p1).bind (fun M2 => (zpI M2 3 1 p0 p2).bind (fun M7 => (zpZ M7 3 2 p0 p3).bind (fun M12 => some M12)))
def fX3_becomeNothing (M0 : Mem) (p0 : Nat) : Option Mem :=
  (zck M0 3 p0).bind (fun u4 => (fX3_become M0 p0 (0 : Int32) (0 : Int32) (0 : Int32)).bind (fun M4 => some M4))
def fX3_becomeEmpty (M0 : Mem) (p0 : Nat) : Option Mem :=
  (zck M0 3 p0).bind (fun u4 => (fX3_become M0 p0 (0 : Int32) (0 : Int32) (1 : Int32)).bind (fun M4 => some M4))
def fX3_orElse_38  (M : Mem) (g0 : Nat) (y1 : Int32) (y2 : Int32) (y3 : Int32) : Option Mem :=
  (zck M 3 g0).bind (fun u38 => (fX3_become M g0 y1 y2 y3).bind (fun M38 => some M38))
def fX3_orElse_33  (M : Mem) (g0 : Nat) (y1 : Int32) (y2 : Int32) : Option Mem :=
  fX3_orElse_38  M g0 y1 y2 (1 : Int32)
def fX3_orElse (M0 : Mem) (p0 : Nat) (p1 : Nat) : Option Mem :=
  (zgI M0 3 0 p0).bind (fun v2 => (zgI M0 3 0 p1).bind (fun v6 => (zgI M0 3 1 p0).bind (fun v11 => (zgI M0 3 1 p1).bind (fun v15 => (zgI M0 3 2 p0).bind (fun v20 => if v20 = 0 then ((zgI M0 3 2 p1).bind (fun v27 => if v27 = 0 then (fX3_orElse_38  M0 p0 (v2 ||| v6) (v11 ||| v15) (0 : Int32)) else (fX3_orElse_33  M0 p0 (v2 ||| v6) (v11 ||| v15)))) else (fX3_orElse_33  M0 p0 (v2 ||| v6) (v11 ||| v15)))))))
def fX3_followedBy_66  (M : Mem) (g0 : Nat) (y1 : Int32) (y2 : Int32) (y3 : Int32) : Option Mem :=
  (zck M 3 g0).bind (fun u66 => (fX3_become M g0 y1 y2 y3).bind (fun M66 => some M66))
def fX3_followedBy_65  (M : Mem) (g0 : Nat) (y1 : Int32) (y2 : Int32) : Option Mem :=
  fX3_followedBy_66  M g0 y1 y2 (0 : Int32)
def fX3_followedBy_47  (M : Mem) (h0 : Nat) (h1 : Nat) (g0 : Nat) (y1 : Int32) (y2 : Int32) : Option Mem :=
  (zgI M 3 2 h0).bind (fun v48 => if v48 = 0 then (fX3_followedBy_65  M g0 y1 y2) else ((zgI M 3 2 h1).bind (fun v55 => if v55 = 0 then (fX3_followedBy_65  M g0 y1 y2) else (fX3_followedBy_66  M g0 y1 y2 (1 : Int32)))))
def fX3_followedBy_24  (M : Mem) (h0 : Nat) (h1 : Nat) (g0 : Nat) (y1 : Int32) : Option Mem :=
  (zgI M 3 2 h1).bind (fun v25 => if v25 = 0 then ((zgI M 3 1 h1).bind (fun v44 => fX3_followedBy_47  M h0 h1 g0 y1 v44)) else ((zgI M 3 1 h0).bind (fun v32 => (zgI M 3 1 h1).bind (fun v36 => fX3_followedBy_47  M h0 h1 g0 y1 (v32 ||| v36)))))
def fX3_followedBy (M0 : Mem) (p0 : Nat) (p1 : Nat) : Option Mem :=
  (zgI M0 3 2 p0).bind (fun v2 => if v2 = 0 then ((zgI M0 3 0 p0).bind (fun v21 => fX3_followedBy_24  M0 p0 p1 p0 v21)) else ((zgI M0 3 0 p0).bind (fun v9 => (zgI M0 3 0 p1).bind (fun v13 => fX3_followedBy_24  M0 p0 p1 p0 (v9 ||| v13)))))
def fX4_init (M0 : Mem) (p0 : Nat) (p1 : Int32) : Option Mem :=
  (zna M0 10 (if (0 : Int32) < p1 then p1 else (0 : Int32)) (M0.1 + 1)).bind (fun M10 => (zpR M10 4 0 p0 M0.1).bind (fun M12 => some M12))
def fX4_at (M0 : Mem) (p0 : Nat) (p1 : Int32) : Option (Int32 × Mem) :=
  if p1 < 0 then (zrt .char (0 : Int32) M0) else ((zgI M0 4 1 p0).bind (fun v6 => if v6 ≤ p1 then (zrt .char (0 : Int32) M0) else ((zgR M0 4 0 p0).bind (fun v13 => (zaI M0 10 v13 p1).bind (fun v17 => zrt .char v17 M0)))))
def fX4_append (M0 : Mem) (p0 : Nat) (p1 : Int32) : Option Mem :=
  (zgI M0 4 1 p0).bind (fun v1 => (zgR M0 4 0 p0).bind (fun v5 => (zal M0 10 v5).bind (fun v8 => if v8 ≤ v1 then (some M0) else ((zgR M0 4 0 p0).bind (fun v13 => (zgI M0 4 1 p0).bind (fun v17 => (zsC M0 v13 v17 p1).bind (fun M21 => (zgI M21 4 1 p0).bind (fun v24 => (zpI M21 4 1 p0 (v24 + (1 : Int32))).bind (fun M29 => some M29)))))))))
def fX4_become_8  (k8 : Mem → Nat → Nat → Int32 → Int32 → Int32 → Option Mem) (M : Mem) (h0 : Nat) (h1 : Nat) (x2 : Int32) (x3 : Int32) (x4 : Int32) : Option Mem :=
  if x3 ≤ x4 then (some M) else ((zck M 4 h1).bind (fun u20 => (fX4_at M h1 (x2 + x4)).bind (fun r20 => (zck r20.2 4 h0).bind (fun u23 => (fX4_append r20.2 h0 r20.1).bind (fun M23 => zlt (x4 + (1 : Int32)) (fun x4_26 => k8 M23 h0 h1 x2 x3 x4_26))))))
def fX4_become_8L  (n : Nat) : Mem → Nat → Nat → Int32 → Int32 → Int32 → Option Mem := zit (fun _ _ _ _ _ _ => none) (fX4_become_8 ) n
def fX4_become (M0 : Mem) (p0 : Nat) (p1 : Nat) (p2 : Int32) (p3 : Int32) : Option Mem :=
  (zpI M0 4 1 p0 (0 : Int32)).bind (fun M2 => fX4_become_8L  zFU M2 p0 p1 p2 p3 (0 : Int32))
def fX4_isPartOf_13  (k13 : Mem → Nat → Nat → Int32 → Int32 → Option (Int32 × Mem)) (M : Mem) (h0 : Nat) (h1 : Nat) (x2 : Int32) (x4 : Int32) : Option (Int32 × Mem) :=
  (zgI M 4 1 h0).bind (fun v16 => if v16 ≤ x4 then (zrt .boolean (1 : Int32) M) else ((zck M 4 h0).bind (fun u25 => (fX4_at M h0 x4).bind (fun r25 => (zck r25.2 4 h1).bind (fun u33 => (fX4_at r25.2 h1 (x2 + x4)).bind (fun r33 => if r25.1 = r33.1 then (zlt (x4 + (1 : Int32)) (fun x4_41 => k13 r33.2 h0 h1 x2 x4_41)) else (zrt .boolean (0 : Int32) r33.2)))))))
def fX4_isPartOf_13L  (n : Nat) : Mem → Nat → Nat → Int32 → Int32 → Option (Int32 × Mem) := zit (fun _ _ _ _ _ => none) (fX4_isPartOf_13 ) n
def fX4_isPartOf (M0 : Mem) (p0 : Nat) (p1 : Nat) (p2 : Int32) (p3 : Int32) : Option (Int32 × Mem) :=
  (zgI M0 4 1 p0).bind (fun v1 => if v1 = p3 then (fX4_isPartOf_13L  zFU M0 p0 p1 p2 (0 : Int32)) else (zrt .boolean (0 : Int32) M0))
def fX4_putIn (M0 : Mem) (p0 : Nat) (p1 : Int32) (p2 : Nat) : Option Mem :=
  (zgI M0 4 1 p2).bind (fun v1 => if p1 < 0 then (some M0) else ((zgI M0 4 1 p0).bind (fun v11 => if v11 < p1 then (some M0) else ((zgR M0 4 0 p0).bind (fun v19 => (zal M0 10 v19).bind (fun v22 => (zgI M0 4 1 p0).bind (fun v24 => if v1 ≤ (v22 - v24) then ((zgR M0 4 0 p0).bind (fun v33 => (zgR M0 4 0 p0).bind (fun v38 => (zgI M0 4 1 p0).bind (fun v45 => (zcp M0 10 v33 p1 v38 (p1 + v1) (v45 - p1)).bind (fun M50 => (zgR M50 4 0 p2).bind (fun v54 => (zgR M50 4 0 p0).bind (fun v59 => (zcp M50 10 v54 (0 : Int32) v59 p1 v1).bind (fun M64 => (zgI M64 4 1 p0).bind (fun v69 => (zpI M64 4 1 p0 (v69 + v1)).bind (fun M74 => some M74)))))))))) else (some M0))))))))
def fX4_takeOut (M0 : Mem) (p0 : Nat) (p1 : Int32) (p2 : Int32) : Option Mem :=
  if p1 < 0 then (some M0) else (if p2 < 0 then (some M0) else ((zgI M0 4 1 p0).bind (fun v10 => if p2 ≤ (v10 - p1) then ((zgR M0 4 0 p0).bind (fun v20 => (zgR M0 4 0 p0).bind (fun v27 => (zgI M0 4 1 p0).bind (fun v32 => (zcp M0 10 v20 (p1 + p2) v27 p1 ((v32 - p1) - p2)).bind (fun M39 => (zgI M39 4 1 p0).bind (fun v44 => (zpI M39 4 1 p0 (v44 - p2)).bind (fun M49 => some M49))))))) else (some M0))))
def fX0_init (M0 : Mem) (p0 : Nat) : Option Mem :=
  (zno M0 4 (M0.1 + 2)).bind (fun M5 => (fX4_init M5 M0.1 (100 : Int32)).bind (fun M11 => (zcg M5 M11 1 (M0.1 + 2)).bind (fun u11 => (zpR M11 0 0 p0 M0.1).bind (fun M14 => some M14))))
def fX7_firstClassOf_40  (x0 : Int32) : Option Int32 :=
  if x0 = (32 : Int32) then (some (2 : Int32)) else (if x0 = (33 : Int32) then (some (5 : Int32)) else (if x0 = (34 : Int32) then (some (9 : Int32)) else (if x0 = (39 : Int32) then (some (6 : Int32)) else (if x0 = (40 : Int32) then (some (8 : Int32)) else (if x0 = (41 : Int32) then (some (9 : Int32)) else (if x0 = (44 : Int32) then (some (4 : Int32)) else (if x0 = (45 : Int32) then (some (7 : Int32)) else (if x0 = (46 : Int32) then (some (3 : Int32)) else (if x0 = (58 : Int32) then (some (4 : Int32)) else (if x0 = (59 : Int32) then (some (4 : Int32)) else (if x0 = (63 : Int32) then (some (5 : Int32)) else (if x0 = (91 : Int32) then (some (8 : Int32)) else (if x0 = (93 : Int32) then (some (9 : Int32)) else (if x0 = (94 : Int32) then (some (10 : Int32)) else (if x0 = (96 : Int32) then (some (10 : Int32)) else (if x0 = (126 : Int32) then (some (10 : Int32)) else (some (11 : Int32))))))))))))))))))
def fX7_firstClassOf_26  (x0 : Int32) : Option Int32 :=
  if x0 < (48 : Int32) then (fX7_firstClassOf_40  x0) else (if (57 : Int32) < x0 then (fX7_firstClassOf_40  x0) else (some (1 : Int32)))
def fX7_firstClassOf_12  (x0 : Int32) : Option Int32 :=
  if x0 < (65 : Int32) then (fX7_firstClassOf_26  x0) else (if (90 : Int32) < x0 then (fX7_firstClassOf_26  x0) else (some (0 : Int32)))
def fX7_firstClassOf (p0 : Int32) : Option Int32 :=
  if p0 < (97 : Int32) then (fX7_firstClassOf_12  p0) else (if p0 ≤ (122 : Int32) then (some (0 : Int32)) else (fX7_firstClassOf_12  p0))
def fX7_init_27 (M0 : Mem)  (k27 : Mem → Nat → Int32 → Option Mem) (M : Mem) (h0 : Nat) (x1 : Int32) : Option Mem :=
  (zgR M 7 1 h0).bind (fun v29 => (zal M 11 v29).bind (fun v32 => if v32 ≤ x1 then (some M) else ((zgR M 7 1 h0).bind (fun v37 => (fX7_firstClassOf ((32 : Int32) + x1)).bind (fun v45 => (zsI M v37 x1 v45).bind (fun M48 => zlt (x1 + (1 : Int32)) (fun x1_49 => k27 M48 h0 x1_49)))))))
def fX7_init_27L (M0 : Mem)  (n : Nat) : Mem → Nat → Int32 → Option Mem := zit (fun _ _ _ => none) (fX7_init_27 M0 ) n
def fX7_init (M0 : Mem) (p0 : Nat) : Option Mem :=
  (zno M0 4 (M0.1 + 3)).bind (fun M5 => (fX4_init M5 M0.1 (100 : Int32)).bind (fun M11 => (zcg M5 M11 1 (M0.1 + 3)).bind (fun u11 => (zpR M11 7 0 p0 M0.1).bind (fun M14 => (zna M14 11 (95 : Int32) (M0.1 + 3)).bind (fun M20 => (zpR M20 7 1 p0 M14.1).bind (fun M22 => fX7_init_27L M0  zFU M22 p0 (0 : Int32)))))))
def fX7_classOfCharacter (M0 : Mem) (p0 : Nat) (p1 : Int32) : Option (Int32 × Mem) :=
  zlt (p1 - (32 : Int32)) (fun x2_4 => if x2_4 < 0 then (some ((-1 : Int32), M0)) else ((zgR M0 7 1 p0).bind (fun v11 => (zal M0 11 v11).bind (fun v14 => if v14 ≤ x2_4 then (some ((-1 : Int32), M0)) else ((zgR M0 7 1 p0).bind (fun v19 => (zaI M0 11 v19 x2_4).bind (fun v23 => some (v23, M0))))))))
def fX7_changeClass (M0 : Mem) (p0 : Nat) (p1 : Int32) (p2 : Int32) : Option Mem :=
  zlt (p1 - (32 : Int32)) (fun x3_4 => if x3_4 < 0 then (some M0) else ((zgR M0 7 1 p0).bind (fun v11 => (zal M0 11 v11).bind (fun v14 => if v14 ≤ x3_4 then (some M0) else ((zgR M0 7 1 p0).bind (fun v19 => (zsI M0 v19 x3_4 p2).bind (fun M24 => some M24)))))))
def fX7_classAt (M0 : Mem) (p0 : Nat) (p1 : Int32) : Option (Int32 × Mem) :=
  (zgR M0 7 0 p0).bind (fun v2 => (zck M0 4 v2).bind (fun u6 => (fX4_at M0 v2 p1).bind (fun r6 => (zck r6.2 7 p0).bind (fun u9 => (fX7_classOfCharacter r6.2 p0 r6.1).bind (fun r9 => some (r9.1, r9.2))))))
def fX5_init (M0 : Mem) (p0 : Nat) : Option Mem :=
  (zno M0 4 (M0.1 + 8)).bind (fun M5 => (fX4_init M5 M0.1 (24 : Int32)).bind (fun M11 => (zcg M5 M11 1 (M0.1 + 8)).bind (fun u11 => (zpR M11 5 0 p0 M0.1).bind (fun M14 => (zno M14 3 (M0.1 + 8)).bind (fun M18 => (fX3_init M18 M14.1 ).bind (fun M22 => (zcg M18 M22 0 (M0.1 + 8)).bind (fun u22 => (zpR M22 5 1 p0 M14.1).bind (fun M25 => (zno M25 3 (M0.1 + 8)).bind (fun M29 => (fX3_init M29 M25.1 ).bind (fun M33 => (zcg M29 M33 0 (M0.1 + 8)).bind (fun u33 => (zpR M33 5 2 p0 M25.1).bind (fun M36 => (zna M36 11 (24 : Int32) (M0.1 + 8)).bind (fun M42 => (zpR M42 5 3 p0 M36.1).bind (fun M44 => (zna M44 11 (12 : Int32) (M0.1 + 8)).bind (fun M50 => (zpR M50 5 4 p0 M44.1).bind (fun M52 => (zna M52 11 (24 : Int32) (M0.1 + 8)).bind (fun M58 => (zpR M58 5 5 p0 M52.1).bind (fun M60 => (zna M60 11 (24 : Int32) (M0.1 + 8)).bind (fun M66 => (zpR M66 5 6 p0 M60.1).bind (fun M68 => some M68))))))))))))))))))))
def fX5_isSet (M0 : Mem) (p0 : Nat) : Option (Int32 × Mem) :=
  (zgR M0 5 0 p0).bind (fun v1 => (zgI M0 4 1 v1).bind (fun v4 => if v4 ≤ 0 then (zrt .boolean (0 : Int32) M0) else (zrt .boolean (1 : Int32) M0)))
def fX8_isClass (p0 : Int32) : Option Int32 :=
  if p0 < 0 then (zrp .boolean (0 : Int32)) else (if (12 : Int32) ≤ p0 then (zrp .boolean (0 : Int32)) else (zrp .boolean (1 : Int32)))
def fX5_takersOf (M0 : Mem) (p0 : Nat) (p1 : Int32) : Option (Int32 × Mem) :=
  (fX8_isClass p1).bind (fun v1 => if v1 = 0 then (some ((0 : Int32), M0)) else ((zgR M0 5 4 p0).bind (fun v8 => (zaI M0 11 v8 p1).bind (fun v12 => some (v12, M0)))))
def fX5_waitAt_33 (k2 : Mem → Nat → Int32 → Int32 → Int32 → Option Mem) (M : Mem) (h0 : Nat) (x1 : Int32) (x2 : Int32) (x3 : Int32) : Option Mem :=
  zlt (x3 + (1 : Int32)) (fun x3_33 => k2 M h0 x1 x2 x3_33)
def fX5_waitAt_2  (k2 : Mem → Nat → Int32 → Int32 → Int32 → Option Mem) (M : Mem) (h0 : Nat) (x1 : Int32) (x2 : Int32) (x3 : Int32) : Option Mem :=
  (zal M 11 h0).bind (fun v4 => if v4 ≤ x3 then (some M) else (if (x1 >>> (x3 &&& 31)) = 0 then (some M) else (if ((x1 >>> (x3 &&& 31)) &&& (1 : Int32)) = 0 then (fX5_waitAt_33 k2 M h0 x1 x2 x3) else ((zaI M 11 h0 x3).bind (fun v24 => if x2 ≤ v24 then (fX5_waitAt_33 k2 M h0 x1 x2 x3) else ((zsI M h0 x3 x2).bind (fun M32 => fX5_waitAt_33 k2 M32 h0 x1 x2 x3)))))))
def fX5_waitAt_2L  (n : Nat) : Mem → Nat → Int32 → Int32 → Int32 → Option Mem := zit (fun _ _ _ _ _ => none) (fX5_waitAt_2 ) n
def fX5_waitAt (M0 : Mem) (p0 : Nat) (p1 : Int32) (p2 : Int32) : Option Mem :=
  fX5_waitAt_2L  zFU M0 p0 p1 p2 (0 : Int32)
def fX5_beginAhead_15  (M : Mem) (h0 : Nat) (x1 : Int32) : Option Mem :=
  (zgR M 5 5 h0).bind (fun v16 => (zgR M 5 2 h0).bind (fun v20 => (zgI M 3 0 v20).bind (fun v23 => (fX5_waitAt M  v16 v23 x1).bind (fun M27 => some M27))))
def fX5_beginAhead (M0 : Mem) (p0 : Nat) (p1 : Int32) : Option Mem :=
  (zgR M0 5 2 p0).bind (fun v1 => (zgI M0 3 2 v1).bind (fun v4 => if v4 = 0 then (fX5_beginAhead_15  M0 p0 p1) else ((zpI M0 5 7 p0 p1).bind (fun M12 => fX5_beginAhead_15  M12 p0 p1))))
def fX5_followersOf_33 (k4 : Mem → Nat → Int32 → Int32 → Int32 → Option (Int32 × Mem)) (M : Mem) (h0 : Nat) (x1 : Int32) (x2 : Int32) (x3 : Int32) : Option (Int32 × Mem) :=
  zlt (x3 + (1 : Int32)) (fun x3_33 => k4 M h0 x1 x2 x3_33)
def fX5_followersOf_4  (k4 : Mem → Nat → Int32 → Int32 → Int32 → Option (Int32 × Mem)) (M : Mem) (h0 : Nat) (x1 : Int32) (x2 : Int32) (x3 : Int32) : Option (Int32 × Mem) :=
  if (24 : Int32) ≤ x3 then (some (x2, M)) else (if (x1 >>> (x3 &&& 31)) = 0 then (some (x2, M)) else (if ((x1 >>> (x3 &&& 31)) &&& (1 : Int32)) = 0 then (fX5_followersOf_33 k4 M h0 x1 x2 x3) else ((zgR M 5 3 h0).bind (fun v26 => (zaI M 11 v26 x3).bind (fun v30 => zlt (x2 ||| v30) (fun x2_32 => fX5_followersOf_33 k4 M h0 x1 x2_32 x3))))))
def fX5_followersOf_4L  (n : Nat) : Mem → Nat → Int32 → Int32 → Int32 → Option (Int32 × Mem) := zit (fun _ _ _ _ _ => none) (fX5_followersOf_4 ) n
def fX5_followersOf (M0 : Mem) (p0 : Nat) (p1 : Int32) : Option (Int32 × Mem) :=
  fX5_followersOf_4L  zFU M0 p0 p1 (0 : Int32) (0 : Int32)
def fX5_stepAhead_95 (k24 : Mem → Nat → Int32 → Int32 → Int32 → Option (Int32 × Mem)) (M : Mem) (h0 : Nat) (x1 : Int32) (x2 : Int32) (x3 : Int32) : Option (Int32 × Mem) :=
  zlt (x3 + (1 : Int32)) (fun x3_95 => k24 M h0 x1 x2 x3_95)
def fX5_stepAhead_80 (k24 : Mem → Nat → Int32 → Int32 → Int32 → Option (Int32 × Mem)) (M : Mem) (h0 : Nat) (x1 : Int32) (x2 : Int32) (x3 : Int32) (x4 : Int32) : Option (Int32 × Mem) :=
  (zgR M 5 6 h0).bind (fun v81 => (zgR M 5 3 h0).bind (fun v85 => (zaI M 11 v85 x3).bind (fun v89 => (fX5_waitAt M  v81 v89 x4).bind (fun M92 => fX5_stepAhead_95 k24 M92 h0 x1 x2 x3))))
def fX5_stepAhead_24  (k24 : Mem → Nat → Int32 → Int32 → Int32 → Option (Int32 × Mem)) (M : Mem) (h0 : Nat) (x1 : Int32) (x2 : Int32) (x3 : Int32) : Option (Int32 × Mem) :=
  if (24 : Int32) ≤ x3 then ((zgR M 5 5 h0).bind (fun v102 => (zgR M 5 6 h0).bind (fun v108 => (zpR M 5 5 h0 v108).bind (fun M111 => (zpR M111 5 6 h0 v102).bind (fun M116 => zrt .boolean x2 M116))))) else ((zgR M 5 5 h0).bind (fun v31 => (zaI M 11 v31 x3).bind (fun v35 => if v35 < 0 then (fX5_stepAhead_95 k24 M h0 x1 x2 x3) else (if ((x1 >>> (x3 &&& 31)) &&& (1 : Int32)) = 0 then (fX5_stepAhead_95 k24 M h0 x1 x2 x3) else ((zgR M 5 2 h0).bind (fun v54 => (zgI M 3 1 v54).bind (fun v57 => if ((v57 >>> (x3 &&& 31)) &&& (1 : Int32)) = 0 then (fX5_stepAhead_80 k24 M h0 x1 (1 : Int32) x3 v35) else ((zgI M 5 7 h0).bind (fun v69 => (zpI M 5 7 h0 (if v69 < v35 then v35 else v69)).bind (fun M77 => fX5_stepAhead_80 k24 M77 h0 x1 (1 : Int32) x3 v35))))))))))
def fX5_stepAhead_24L  (n : Nat) : Mem → Nat → Int32 → Int32 → Int32 → Option (Int32 × Mem) := zit (fun _ _ _ _ _ => none) (fX5_stepAhead_24 ) n
def fX5_stepAhead (M0 : Mem) (p0 : Nat) (p1 : Int32) : Option (Int32 × Mem) :=
  (zgR M0 5 2 p0).bind (fun v1 => (zgI M0 3 0 v1).bind (fun v4 => if v4 = 0 then (zrt .boolean (0 : Int32) M0) else ((zgR M0 5 6 p0).bind (fun v15 => (fJ7_fill_53178 M0  v15 (-1 : Int32)).bind (fun M19 => fX5_stepAhead_24L  zFU M19 p0 p1 (0 : Int32) (0 : Int32))))))
def fX5_walk_133 (k51 : Mem → Nat → Nat → Int32 → Int32 → Int32 → Int32 → Int32 → Option Mem) (M : Mem) (h0 : Nat) (h1 : Nat) (x2 : Int32) (x3 : Int32) (x4 : Int32) (x5 : Int32) (x6 : Int32) : Option Mem :=
  k51 M h0 h1 x2 x3 x4 x5 x6
def fX5_walk_110 (k51 : Mem → Nat → Nat → Int32 → Int32 → Int32 → Int32 → Int32 → Option Mem) (M : Mem) (h0 : Nat) (h1 : Nat) (x2 : Int32) (x3 : Int32) (x5 : Int32) (x6 : Int32) (x8 : Int32) (y0 : Int32) : Option Mem :=
  (zgR M 5 1 h0).bind (fun v115 => (zgI M 3 1 v115).bind (fun v118 => if (x8 &&& v118) = 0 then (fX5_walk_133 k51 M h0 h1 x2 x3 y0 x5 x6) else ((zck M 5 h0).bind (fun u130 => (fX5_beginAhead M h0 (x5 - x2)).bind (fun M130 => fX5_walk_133 k51 M130 h0 h1 x2 x3 y0 x5 x6)))))
def fX5_walk_105 (k51 : Mem → Nat → Nat → Int32 → Int32 → Int32 → Int32 → Int32 → Option Mem) (M : Mem) (h0 : Nat) (h1 : Nat) (x2 : Int32) (x3 : Int32) (x5 : Int32) (x6 : Int32) (x8 : Int32) : Option Mem :=
  fX5_walk_110 k51 M h0 h1 x2 x3 x5 x6 x8 (1 : Int32)
def fX5_walk_155  (M : Mem) (g0 : Nat) (y1 : Int32) : Option Mem :=
  (zpI M 5 8 g0 y1).bind (fun M155 => some M155)
def fX5_walk_136  (M : Mem) (h0 : Nat) (x2 : Int32) (x4 : Int32) (x5 : Int32) : Option Mem :=
  if x4 = 0 then (fX5_walk_155  M h0 (x5 - x2)) else (fX5_walk_155  M h0 ((x5 - x2) + (1 : Int32)))
def fX5_walk_51  (k51 : Mem → Nat → Nat → Int32 → Int32 → Int32 → Int32 → Int32 → Option Mem) (M : Mem) (h0 : Nat) (h1 : Nat) (x2 : Int32) (x3 : Int32) (x4 : Int32) (x5 : Int32) (x6 : Int32) : Option Mem :=
  if x4 = 0 then (fX5_walk_136  M h0 x2 x4 x5) else (if x6 ≤ x5 then (fX5_walk_136  M h0 x2 x4 x5) else ((zck M 7 h1).bind (fun u67 => (fX7_classAt M h1 x5).bind (fun r67 => (zck r67.2 5 h0).bind (fun u70 => (fX5_takersOf r67.2 h0 r67.1).bind (fun r70 => zlt (x5 + (1 : Int32)) (fun x5_75 => zlt (x3 &&& r70.1) (fun x8_82 => (zck r70.2 5 h0).bind (fun u87 => (fX5_followersOf r70.2 h0 x8_82).bind (fun r87 => (zck r87.2 5 h0).bind (fun u94 => (fX5_stepAhead r87.2 h0 r70.1).bind (fun r94 => if r94.1 = 0 then (if x8_82 = 0 then (fX5_walk_110 k51 r94.2 h0 h1 x2 r87.1 x5_75 x6 x8_82 (0 : Int32)) else (fX5_walk_105 k51 r94.2 h0 h1 x2 r87.1 x5_75 x6 x8_82)) else (fX5_walk_105 k51 r94.2 h0 h1 x2 r87.1 x5_75 x6 x8_82)))))))))))))
def fX5_walk_51L  (n : Nat) : Mem → Nat → Nat → Int32 → Int32 → Int32 → Int32 → Int32 → Option Mem := zit (fun _ _ _ _ _ _ _ _ => none) (fX5_walk_51 ) n
def fX5_walk_36  (M : Mem) (h0 : Nat) (h1 : Nat) (x2 : Int32) (x3 : Int32) : Option Mem :=
  (zgR M 7 0 h1).bind (fun v43 => (zgI M 4 1 v43).bind (fun v46 => fX5_walk_51L  zFU M h0 h1 x2 x3 (1 : Int32) x2 v46))
def fX5_walk (M0 : Mem) (p0 : Nat) (p1 : Nat) (p2 : Int32) : Option Mem :=
  (zpI M0 5 7 p0 (0 : Int32)).bind (fun M2 => (zgR M2 5 5 p0).bind (fun v6 => (fJ7_fill_53178 M2  v6 (-1 : Int32)).bind (fun M10 => (zgR M10 5 1 p0).bind (fun v14 => (zgI M10 3 0 v14).bind (fun v17 => (zgR M10 5 1 p0).bind (fun v22 => (zgI M10 3 2 v22).bind (fun v25 => if v25 = 0 then (fX5_walk_36  M10 p0 p1 p2 v17) else ((zck M10 5 p0).bind (fun u33 => (fX5_beginAhead M10 p0 (0 : Int32)).bind (fun M33 => fX5_walk_36  M33 p0 p1 p2 v17))))))))))
def fX2_init_22 (M0 : Mem)  (k22 : Mem → Nat → Int32 → Option Mem) (M : Mem) (h0 : Nat) (x1 : Int32) : Option Mem :=
  if (5 : Int32) ≤ x1 then (some M) else ((zgR M 2 0 h0).bind (fun v28 => (zno M 5 (M0.1 + 47)).bind (fun M32 => (fX5_init M32 M.1 ).bind (fun M36 => (zcg M32 M36 8 (M0.1 + 47)).bind (fun u36 => (zsR M36 17 5 v28 x1 M.1).bind (fun M39 => zlt (x1 + (1 : Int32)) (fun x1_40 => k22 M39 h0 x1_40)))))))
def fX2_init_22L (M0 : Mem)  (n : Nat) : Mem → Nat → Int32 → Option Mem := zit (fun _ _ _ => none) (fX2_init_22 M0 ) n
def fX2_init (M0 : Mem) (p0 : Nat) : Option Mem :=
  (zna M0 17 (5 : Int32) (M0.1 + 47)).bind (fun M6 => (zpR M6 2 0 p0 M0.1).bind (fun M9 => (zna M9 11 (100 : Int32) (M0.1 + 47)).bind (fun M15 => (zpR M15 2 1 p0 M9.1).bind (fun M17 => fX2_init_22L M0  zFU M17 p0 (0 : Int32)))))
def fX2_isRaw_23  (M : Mem)  : Option (Int32 × Mem) :=
  zrt .boolean (1 : Int32) M
def fX2_isRaw (M0 : Mem) (p0 : Nat) (p1 : Int32) (p2 : Int32) : Option (Int32 × Mem) :=
  if p1 = p2 then (fX2_isRaw_23  M0) else (if p1 < 0 then (zrt .boolean (0 : Int32) M0) else (if p2 ≤ p1 then (zrt .boolean (0 : Int32) M0) else ((zgR M0 2 1 p0).bind (fun v15 => (zaI M0 11 v15 p1).bind (fun v19 => if v19 ≤ 0 then (zrt .boolean (0 : Int32) M0) else (fX2_isRaw_23  M0))))))
def fX2_measure_72 (k12 : Mem → Nat → Nat → Int32 → Int32 → Option Mem) (M : Mem) (h0 : Nat) (h1 : Nat) (x2 : Int32) (x3 : Int32) : Option Mem :=
  zlt (x3 + (1 : Int32)) (fun x3_72 => k12 M h0 h1 x2 x3_72)
def fX2_measure_12  (k12 : Mem → Nat → Nat → Int32 → Int32 → Option Mem) (M : Mem) (h0 : Nat) (h1 : Nat) (x2 : Int32) (x3 : Int32) : Option Mem :=
  if (5 : Int32) ≤ x3 then (some M) else ((zgR M 2 0 h0).bind (fun v18 => (zaR M 17 v18 x3).bind (fun v22 => (zck M 5 v22).bind (fun u27 => (fX5_isSet M v22 ).bind (fun r27 => if r27.1 = 0 then (fX2_measure_72 k12 r27.2 h0 h1 x2 x3) else ((zck r27.2 5 v22).bind (fun u37 => (fX5_walk r27.2 v22 h1 x2).bind (fun M37 => (zgI M37 2 3 h0).bind (fun v42 => (zgI M37 5 7 v22).bind (fun v47 => (zpI M37 2 3 h0 (if v42 < v47 then v47 else v42)).bind (fun M53 => (zgI M53 2 4 h0).bind (fun v58 => (zgI M53 5 8 v22).bind (fun v63 => (zpI M53 2 4 h0 (if v58 < v63 then v63 else v58)).bind (fun M69 => fX2_measure_72 k12 M69 h0 h1 x2 x3))))))))))))))
def fX2_measure_12L  (n : Nat) : Mem → Nat → Nat → Int32 → Int32 → Option Mem := zit (fun _ _ _ _ _ => none) (fX2_measure_12 ) n
def fX2_measure (M0 : Mem) (p0 : Nat) (p1 : Nat) (p2 : Int32) : Option Mem :=
  (zpI M0 2 3 p0 (1 : Int32)).bind (fun M2 => (zpI M2 2 4 p0 (1 : Int32)).bind (fun M7 => fX2_measure_12L  zFU M7 p0 p1 p2 (0 : Int32)))
def fX2_firstTouched_39 (k2 : Mem → Nat → Int32 → Int32 → Int32 → Option (Int32 × Mem)) (M : Mem) (h0 : Nat) (x1 : Int32) (x2 : Int32) (x3 : Int32) : Option (Int32 × Mem) :=
  zlt (x3 + (1 : Int32)) (fun x3_39 => k2 M h0 x1 x2 x3_39)
def fX2_firstTouched_2  (k2 : Mem → Nat → Int32 → Int32 → Int32 → Option (Int32 × Mem)) (M : Mem) (h0 : Nat) (x1 : Int32) (x2 : Int32) (x3 : Int32) : Option (Int32 × Mem) :=
  if x2 ≤ x3 then (some (x2, M)) else ((zgR M 2 1 h0).bind (fun v9 => (zal M 11 v9).bind (fun v12 => if v12 ≤ x3 then (some (x2, M)) else ((zgR M 2 1 h0).bind (fun v17 => (zaI M 11 v17 x3).bind (fun v21 => if v21 ≤ 0 then (fX2_firstTouched_39 k2 M h0 x1 x2 x3) else ((zgR M 2 1 h0).bind (fun v27 => (zaI M 11 v27 x3).bind (fun v31 => if (x3 + v31) ≤ x1 then (fX2_firstTouched_39 k2 M h0 x1 x2 x3) else (some (x3, M)))))))))))
def fX2_firstTouched_2L  (n : Nat) : Mem → Nat → Int32 → Int32 → Int32 → Option (Int32 × Mem) := zit (fun _ _ _ _ _ => none) (fX2_firstTouched_2 ) n
def fX2_firstTouched (M0 : Mem) (p0 : Nat) (p1 : Int32) (p2 : Int32) : Option (Int32 × Mem) :=
  fX2_firstTouched_2L  zFU M0 p0 p1 p2 (0 : Int32)
def fX2_moveUp (M0 : Mem) (p0 : Nat) (p1 : Int32) (p2 : Int32) (p3 : Int32) : Option Mem :=
  if p1 < 0 then (some M0) else (if p2 < 0 then (some M0) else (if p3 < p1 then (some M0) else ((zgR M0 2 1 p0).bind (fun v15 => (zal M0 11 v15).bind (fun v18 => if p2 ≤ (v18 - p3) then ((zgR M0 2 1 p0).bind (fun v26 => (zgR M0 2 1 p0).bind (fun v31 => (zcp M0 11 v26 p1 v31 (p1 + p2) (p3 - p1)).bind (fun M40 => (zgR M40 2 1 p0).bind (fun v44 => (fJ7_fill_fda19 M40  v44 p1 (p1 + p2) (0 : Int32)).bind (fun M52 => some M52)))))) else (some M0))))))
def fX2_moveDown (M0 : Mem) (p0 : Nat) (p1 : Int32) (p2 : Int32) (p3 : Int32) : Option Mem :=
  if p1 < 0 then (some M0) else (if p2 < 0 then (some M0) else (if (p3 - p1) < p2 then (some M0) else ((zgR M0 2 1 p0).bind (fun v17 => (zal M0 11 v17).bind (fun v20 => if p3 ≤ v20 then ((zgR M0 2 1 p0).bind (fun v26 => (zgR M0 2 1 p0).bind (fun v33 => (zcp M0 11 v26 (p1 + p2) v33 p1 ((p3 - p1) - p2)).bind (fun M42 => some M42)))) else (some M0))))))
def fX2_analyse_87 (k29 : Mem → Nat → Nat → Int32 → Int32 → Int32 → Option Mem) (k87 : Mem → Nat → Nat → Int32 → Int32 → Int32 → Int32 → Option Mem) (M : Mem) (h0 : Nat) (h1 : Nat) (x3 : Int32) (x4 : Int32) (x5 : Int32) (x6 : Int32) : Option Mem :=
  if x6 ≤ x5 then ((zgI M 2 2 h0).bind (fun v110 => (zpI M 2 2 h0 (v110 + (1 : Int32))).bind (fun M115 => k29 M115 h0 h1 x3 x4 x5))) else ((zgR M 2 1 h0).bind (fun v95 => (zsI M v95 x5 (0 : Int32)).bind (fun M101 => zlt (x5 + (1 : Int32)) (fun x5_102 => k87 M101 h0 h1 x3 x4 x5_102 x6))))
def fX2_analyse_87L (k29 : Mem → Nat → Nat → Int32 → Int32 → Int32 → Option Mem) (n : Nat) : Mem → Nat → Nat → Int32 → Int32 → Int32 → Int32 → Option Mem := zit (fun _ _ _ _ _ _ _ => none) (fX2_analyse_87 k29) n
def fX2_analyse_52 (k29 : Mem → Nat → Nat → Int32 → Int32 → Int32 → Option Mem) (M : Mem) (h0 : Nat) (h1 : Nat) (x3 : Int32) (x4 : Int32) (x5 : Int32) : Option Mem :=
  (zck M 2 h0).bind (fun u56 => (fX2_measure M h0 h1 x5).bind (fun M56 => (zgI M56 2 3 h0).bind (fun v64 => zlt (if (x5 + v64) < x4 then (x5 + v64) else x4) (fun x6_71 => (zgR M56 2 1 h0).bind (fun v74 => (zgI M56 2 4 h0).bind (fun v80 => (zsI M56 v74 x5 v80).bind (fun M83 => zlt (x5 + (1 : Int32)) (fun x5_84 => fX2_analyse_87L k29 zFU M83 h0 h1 x3 x4 x5_84 x6_71))))))))
def fX2_analyse_29  (k29 : Mem → Nat → Nat → Int32 → Int32 → Int32 → Option Mem) (M : Mem) (h0 : Nat) (h1 : Nat) (x3 : Int32) (x4 : Int32) (x5 : Int32) : Option Mem :=
  if x4 ≤ x5 then (some M) else (if x5 < x3 then (fX2_analyse_52 k29 M h0 h1 x3 x4 x5) else ((zgR M 2 1 h0).bind (fun v43 => (zaI M 11 v43 x5).bind (fun v48 => if v48 = 0 then (fX2_analyse_52 k29 M h0 h1 x3 x4 x5) else (some M)))))
def fX2_analyse_29L  (n : Nat) : Mem → Nat → Nat → Int32 → Int32 → Int32 → Option Mem := zit (fun _ _ _ _ _ _ => none) (fX2_analyse_29 ) n
def fX2_analyse (M0 : Mem) (p0 : Nat) (p1 : Nat) (p2 : Int32) (p3 : Int32) : Option Mem :=
  (zgR M0 7 0 p1).bind (fun v1 => (zgI M0 4 1 v1).bind (fun v4 => (zgR M0 2 1 p0).bind (fun v8 => (zal M0 11 v8).bind (fun v11 => zlt (if v11 < v4 then v11 else v4) (fun x4_15 => zlt (if (0 : Int32) < p2 then p2 else (0 : Int32)) (fun x5_22 => (zpI M0 2 2 p0 (0 : Int32)).bind (fun M26 => fX2_analyse_29L  zFU M26 p0 p1 p3 x4_15 x5_22)))))))
def fX2_analyseAll (M0 : Mem) (p0 : Nat) (p1 : Nat) : Option Mem :=
  (zgR M0 7 0 p1).bind (fun v4 => (zgI M0 4 1 v4).bind (fun v7 => (zck M0 2 p0).bind (fun u10 => (fX2_analyse M0 p0 p1 (0 : Int32) v7).bind (fun M10 => some M10))))
def fX6_init_33 (M0 : Mem)  (k33 : Mem → Nat → Int32 → Option Mem) (M : Mem) (h0 : Nat) (x1 : Int32) : Option Mem :=
  if (4 : Int32) < x1 then (some M) else ((zgR M 6 0 h0).bind (fun v39 => (zno M 3 (M0.1 + 13)).bind (fun M43 => (fX3_init M43 M.1 ).bind (fun M47 => (zcg M43 M47 0 (M0.1 + 13)).bind (fun u47 => (zsR M47 15 3 v39 x1 M.1).bind (fun M50 => (zgR M50 6 1 h0).bind (fun v52 => (zno M50 3 (M0.1 + 13)).bind (fun M56 => (fX3_init M56 M50.1 ).bind (fun M60 => (zcg M56 M60 0 (M0.1 + 13)).bind (fun u60 => (zsR M60 15 3 v52 x1 M50.1).bind (fun M63 => zlt (x1 + (1 : Int32)) (fun x1_64 => k33 M63 h0 x1_64))))))))))))
def fX6_init_33L (M0 : Mem)  (n : Nat) : Mem → Nat → Int32 → Option Mem := zit (fun _ _ _ => none) (fX6_init_33 M0 ) n
def fX6_init (M0 : Mem) (p0 : Nat) : Option Mem :=
  (zna M0 15 (5 : Int32) (M0.1 + 13)).bind (fun M6 => (zpR M6 6 0 p0 M0.1).bind (fun M9 => (zna M9 15 (5 : Int32) (M0.1 + 13)).bind (fun M14 => (zpR M14 6 1 p0 M9.1).bind (fun M17 => (zno M17 3 (M0.1 + 13)).bind (fun M21 => (fX3_init M21 M17.1 ).bind (fun M25 => (zcg M21 M25 0 (M0.1 + 13)).bind (fun u25 => (zpR M25 6 2 p0 M17.1).bind (fun M28 => fX6_init_33L M0  zFU M28 p0 (0 : Int32)))))))))
def fX6_beginLevel (M0 : Mem) (p0 : Nat) : Option Mem :=
  (zgR M0 6 0 p0).bind (fun v1 => (zgI M0 6 3 p0).bind (fun v5 => (zaR M0 15 v1 v5).bind (fun v8 => (zck M0 3 v8).bind (fun u9 => (fX3_becomeNothing M0 v8 ).bind (fun M9 => (zgR M9 6 1 p0).bind (fun v13 => (zgI M9 6 3 p0).bind (fun v17 => (zaR M9 15 v13 v17).bind (fun v20 => (zck M9 3 v20).bind (fun u21 => (fX3_becomeEmpty M9 v20 ).bind (fun M21 => some M21))))))))))
def fX6_goDeeper (M0 : Mem) (p0 : Nat) : Option Mem :=
  (zgI M0 6 3 p0).bind (fun v1 => if (4 : Int32) ≤ v1 then (some M0) else ((zgI M0 6 3 p0).bind (fun v10 => (zpI M0 6 3 p0 (v10 + (1 : Int32))).bind (fun M15 => (zck M15 6 p0).bind (fun u19 => (fX6_beginLevel M15 p0 ).bind (fun M19 => some M19))))))
def fX6_endSequence (M0 : Mem) (p0 : Nat) : Option Mem :=
  (zgR M0 6 0 p0).bind (fun v1 => (zgI M0 6 3 p0).bind (fun v5 => (zaR M0 15 v1 v5).bind (fun v8 => (zgR M0 6 1 p0).bind (fun v10 => (zgI M0 6 3 p0).bind (fun v14 => (zaR M0 15 v10 v14).bind (fun v17 => (zck M0 3 v8).bind (fun u18 => (fX3_orElse M0 v8 v17).bind (fun M18 => (zgR M18 6 1 p0).bind (fun v22 => (zgI M18 6 3 p0).bind (fun v26 => (zaR M18 15 v22 v26).bind (fun v29 => (zck M18 3 v29).bind (fun u30 => (fX3_becomeEmpty M18 v29 ).bind (fun M30 => some M30)))))))))))))
def fX6_goBack (M0 : Mem) (p0 : Nat) : Option Mem :=
  (zgI M0 6 3 p0).bind (fun v1 => if v1 ≤ 0 then (some M0) else ((zck M0 6 p0).bind (fun u8 => (fX6_endSequence M0 p0 ).bind (fun M8 => (zgR M8 6 0 p0).bind (fun v12 => (zgI M8 6 3 p0).bind (fun v16 => (zaR M8 15 v12 v16).bind (fun v19 => (zgR M8 6 2 p0).bind (fun v22 => (zgI M8 3 0 v19).bind (fun v26 => (zgI M8 3 1 v19).bind (fun v30 => (zgI M8 3 2 v19).bind (fun v34 => (zck M8 3 v22).bind (fun u37 => (fX3_become M8 v22 v26 v30 v34).bind (fun M37 => (zgI M37 6 3 p0).bind (fun v42 => (zpI M37 6 3 p0 (v42 - (1 : Int32))).bind (fun M47 => some M47)))))))))))))))
def fX6_link_30 (k3 : Mem → Nat → Int32 → Int32 → Int32 → Option Mem) (M : Mem) (h1 : Nat) (x2 : Int32) (x3 : Int32) (x4 : Int32) : Option Mem :=
  zlt (x4 + (1 : Int32)) (fun x4_30 => k3 M h1 x2 x3 x4_30)
def fX6_link_3  (k3 : Mem → Nat → Int32 → Int32 → Int32 → Option Mem) (M : Mem) (h1 : Nat) (x2 : Int32) (x3 : Int32) (x4 : Int32) : Option Mem :=
  if (24 : Int32) ≤ x4 then (some M) else (if ((x2 >>> (x4 &&& 31)) &&& (1 : Int32)) = 0 then (fX6_link_30 k3 M h1 x2 x3 x4) else ((zgR M 5 3 h1).bind (fun v20 => (zaI M 11 v20 x4).bind (fun v26 => (zsI M v20 x4 (v26 ||| x3)).bind (fun M29 => fX6_link_30 k3 M29 h1 x2 x3 x4)))))
def fX6_link_3L  (n : Nat) : Mem → Nat → Int32 → Int32 → Int32 → Option Mem := zit (fun _ _ _ _ _ => none) (fX6_link_3 ) n
def fX6_link (M0 : Mem) (p0 : Nat) (p1 : Nat) (p2 : Int32) (p3 : Int32) : Option Mem :=
  fX6_link_3L  zFU M0 p1 p2 p3 (0 : Int32)
def fX6_addItem_51  (M : Mem) (h0 : Nat) (h1 : Nat) : Option Mem :=
  (zgR M 6 1 h0).bind (fun v54 => (zgI M 6 3 h0).bind (fun v58 => (zaR M 15 v54 v58).bind (fun v61 => (zgI M 3 1 v61).bind (fun v62 => (zgR M 6 2 h0).bind (fun v66 => (zgI M 3 0 v66).bind (fun v69 => (zck M 6 h0).bind (fun u72 => (fX6_link M h0 h1 v62 v69).bind (fun M72 => (zgR M72 6 1 h0).bind (fun v76 => (zgI M72 6 3 h0).bind (fun v80 => (zaR M72 15 v76 v80).bind (fun v83 => (zgR M72 6 2 h0).bind (fun v85 => (zck M72 3 v83).bind (fun u88 => (fX3_followedBy M72 v83 v85).bind (fun M88 => some M88))))))))))))))
def fX6_addItem_43  (M : Mem) (h0 : Nat) (h1 : Nat) : Option Mem :=
  (zgR M 6 2 h0).bind (fun v44 => (zpZ M 3 2 v44 (1 : Int32)).bind (fun M48 => fX6_addItem_51  M48 h0 h1))
def fX6_addItem_31  (M : Mem) (h0 : Nat) (h1 : Nat) (x2 : Int32) : Option Mem :=
  if x2 = (42 : Int32) then (fX6_addItem_43  M h0 h1) else (if x2 = (63 : Int32) then (fX6_addItem_43  M h0 h1) else (fX6_addItem_51  M h0 h1))
def fX6_addItem_12  (M : Mem) (h0 : Nat) (h1 : Nat) (x2 : Int32) : Option Mem :=
  (zgR M 6 2 h0).bind (fun v15 => (zgI M 3 1 v15).bind (fun v18 => (zgR M 6 2 h0).bind (fun v22 => (zgI M 3 0 v22).bind (fun v25 => (zck M 6 h0).bind (fun u28 => (fX6_link M h0 h1 v18 v25).bind (fun M28 => fX6_addItem_31  M28 h0 h1 x2))))))
def fX6_addItem (M0 : Mem) (p0 : Nat) (p1 : Nat) (p2 : Int32) : Option Mem :=
  if p2 = (42 : Int32) then (fX6_addItem_12  M0 p0 p1 p2) else (if p2 = (43 : Int32) then (fX6_addItem_12  M0 p0 p1 p2) else (fX6_addItem_31  M0 p0 p1 p2))
def fX6_endAlternatives (M0 : Mem) (p0 : Nat) (p1 : Nat) : Option Mem :=
  (zck M0 6 p0).bind (fun u1 => (fX6_endSequence M0 p0 ).bind (fun M1 => (zgR M1 6 0 p0).bind (fun v5 => (zgI M1 6 3 p0).bind (fun v9 => (zaR M1 15 v5 v9).bind (fun v12 => (zgI M1 3 0 v12).bind (fun v16 => (zgI M1 3 1 v12).bind (fun v20 => (zgI M1 3 2 v12).bind (fun v24 => (zck M1 3 p1).bind (fun u27 => (fX3_become M1 p1 v16 v20 v24).bind (fun M27 => (zck M27 6 p0).bind (fun u31 => (fX6_beginLevel M27 p0 ).bind (fun M31 => some M31))))))))))))
def fX8_isClassLetterOrDot_18   : Option Int32 :=
  zrp .boolean (1 : Int32)
def fX8_isClassLetterOrDot (p0 : Int32) : Option Int32 :=
  if p0 = (46 : Int32) then (fX8_isClassLetterOrDot_18  ) else (if p0 < (65 : Int32) then (zrp .boolean (0 : Int32)) else (if (77 : Int32) ≤ p0 then (zrp .boolean (0 : Int32)) else (fX8_isClassLetterOrDot_18  )))
def fX6_takeLeaf_42 (k8 : Mem → Nat → Nat → Int32 → Int32 → Int32 → Option Mem) (M : Mem) (h0 : Nat) (h1 : Nat) (x3 : Int32) (x4 : Int32) (x5 : Int32) : Option Mem :=
  zlt (x5 + (1 : Int32)) (fun x5_42 => k8 M h0 h1 x3 x4 x5_42)
def fX6_takeLeaf_30 (k8 : Mem → Nat → Nat → Int32 → Int32 → Int32 → Option Mem) (M : Mem) (h0 : Nat) (h1 : Nat) (x3 : Int32) (x4 : Int32) (x5 : Int32) : Option Mem :=
  (zgR M 5 4 h1).bind (fun v31 => (zaI M 11 v31 x5).bind (fun v37 => (zsI M v31 x5 (v37 ||| x4)).bind (fun M41 => fX6_takeLeaf_42 k8 M41 h0 h1 x3 x4 x5)))
def fX6_takeLeaf_8  (k8 : Mem → Nat → Nat → Int32 → Int32 → Int32 → Option Mem) (M : Mem) (h0 : Nat) (h1 : Nat) (x3 : Int32) (x4 : Int32) (x5 : Int32) : Option Mem :=
  if (12 : Int32) ≤ x5 then ((zgR M 6 2 h0).bind (fun v49 => (zck M 3 v49).bind (fun u57 => (fX3_become M v49 x4 x4 (0 : Int32)).bind (fun M57 => some M57)))) else (if x3 = (46 : Int32) then (fX6_takeLeaf_30 k8 M h0 h1 x3 x4 x5) else (if x3 = ((65 : Int32) + x5) then (fX6_takeLeaf_30 k8 M h0 h1 x3 x4 x5) else (fX6_takeLeaf_42 k8 M h0 h1 x3 x4 x5)))
def fX6_takeLeaf_8L  (n : Nat) : Mem → Nat → Nat → Int32 → Int32 → Int32 → Option Mem := zit (fun _ _ _ _ _ _ => none) (fX6_takeLeaf_8 ) n
def fX6_takeLeaf (M0 : Mem) (p0 : Nat) (p1 : Nat) (p2 : Int32) (p3 : Int32) : Option Mem :=
  zlt ((1 : Int32) <<< (p2 &&& 31)) (fun x4_3 => fX6_takeLeaf_8L  zFU M0 p0 p1 p3 x4_3 (0 : Int32))
def fX6_build_168 (k39 : Mem → Nat → Nat → Nat → Int32 → Option Mem) (M : Mem) (h0 : Nat) (h1 : Nat) (h2 : Nat) (x3 : Int32) : Option Mem :=
  zlt (x3 + (1 : Int32)) (fun x3_168 => k39 M h0 h1 h2 x3_168)
def fX6_build_39  (k39 : Mem → Nat → Nat → Nat → Int32 → Option Mem) (M : Mem) (h0 : Nat) (h1 : Nat) (h2 : Nat) (x3 : Int32) : Option Mem :=
  (zgR M 5 0 h1).bind (fun v41 => (zgI M 4 1 v41).bind (fun v44 => if v44 ≤ x3 then ((zck M 6 h0).bind (fun u176 => (fX6_endAlternatives M h0 h2).bind (fun M176 => some M176))) else ((zgR M 5 0 h1).bind (fun v51 => (zck M 4 v51).bind (fun u55 => (fX4_at M v51 x3).bind (fun r55 => if r55.1 = (40 : Int32) then ((zck r55.2 6 h0).bind (fun u68 => (fX6_goDeeper r55.2 h0 ).bind (fun M68 => fX6_build_168 k39 M68 h0 h1 h2 x3))) else (if r55.1 = (41 : Int32) then ((zck r55.2 6 h0).bind (fun u82 => (fX6_goBack r55.2 h0 ).bind (fun M82 => (zgR M82 5 0 h1).bind (fun v88 => (zck M82 4 v88).bind (fun u94 => (fX4_at M82 v88 (x3 + (1 : Int32))).bind (fun r94 => (zck r94.2 6 h0).bind (fun u97 => (fX6_addItem r94.2 h0 h1 r94.1).bind (fun M97 => fX6_build_168 k39 M97 h0 h1 h2 x3)))))))) else (if r55.1 = (124 : Int32) then ((zck r55.2 6 h0).bind (fun u111 => (fX6_endSequence r55.2 h0 ).bind (fun M111 => fX6_build_168 k39 M111 h0 h1 h2 x3))) else (if r55.1 = (47 : Int32) then ((zck r55.2 6 h0).bind (fun u126 => (fX6_endAlternatives r55.2 h0 h2).bind (fun M126 => (zgR M126 5 2 h1).bind (fun v130 => fX6_build_168 k39 M126 h0 h1 v130 x3)))) else ((fX8_isClassLetterOrDot r55.1).bind (fun v139 => if v139 = 0 then (fX6_build_168 k39 r55.2 h0 h1 h2 x3) else ((zck r55.2 6 h0).bind (fun u150 => (fX6_takeLeaf r55.2 h0 h1 x3 r55.1).bind (fun M150 => (zgR M150 5 0 h1).bind (fun v156 => (zck M150 4 v156).bind (fun u162 => (fX4_at M150 v156 (x3 + (1 : Int32))).bind (fun r162 => (zck r162.2 6 h0).bind (fun u165 => (fX6_addItem r162.2 h0 h1 r162.1).bind (fun M165 => fX6_build_168 k39 M165 h0 h1 h2 x3)))))))))))))))))))
def fX6_build_39L  (n : Nat) : Mem → Nat → Nat → Nat → Int32 → Option Mem := zit (fun _ _ _ _ _ => none) (fX6_build_39 ) n
def fX6_build (M0 : Mem) (p0 : Nat) (p1 : Nat) : Option Mem :=
  (zgR M0 5 3 p1).bind (fun v1 => (fJ7_fill_53178 M0  v1 (0 : Int32)).bind (fun M5 => (zgR M5 5 4 p1).bind (fun v9 => (fJ7_fill_53178 M5  v9 (0 : Int32)).bind (fun M13 => (zgR M13 5 1 p1).bind (fun v17 => (zgR M13 5 2 p1).bind (fun v22 => (zck M13 3 v22).bind (fun u25 => (fX3_becomeEmpty M13 v22 ).bind (fun M25 => (zpI M25 6 3 p0 (0 : Int32)).bind (fun M30 => (zck M30 6 p0).bind (fun u34 => (fX6_beginLevel M30 p0 ).bind (fun M34 => fX6_build_39L  zFU M34 p0 p1 v17 (0 : Int32))))))))))))
def fX1_init_15 (M0 : Mem)  (k15 : Mem → Nat → Int32 → Option Mem) (M : Mem) (h0 : Nat) (x1 : Int32) : Option Mem :=
  if (30 : Int32) ≤ x1 then (some M) else ((zgR M 1 0 h0).bind (fun v22 => (zno M 0 (M0.1 + 91)).bind (fun M26 => (fX0_init M26 M.1 ).bind (fun M30 => (zcg M26 M30 2 (M0.1 + 91)).bind (fun u30 => (zsR M30 13 0 v22 x1 M.1).bind (fun M33 => zlt (x1 + (1 : Int32)) (fun x1_34 => k15 M33 h0 x1_34)))))))
def fX1_init_15L (M0 : Mem)  (n : Nat) : Mem → Nat → Int32 → Option Mem := zit (fun _ _ _ => none) (fX1_init_15 M0 ) n
def fX1_init (M0 : Mem) (p0 : Nat) : Option Mem :=
  (zna M0 13 (30 : Int32) (M0.1 + 91)).bind (fun M7 => (zpR M7 1 0 p0 M0.1).bind (fun M10 => fX1_init_15L M0  zFU M10 p0 (0 : Int32)))
def fX1_atIndex (M0 : Mem) (p0 : Nat) (p1 : Int32) : Option (Nat × Mem) :=
  (zgR M0 1 0 p0).bind (fun v1 => (zgI M0 1 1 p0).bind (fun v5 => (fJ9_floorMod_7cf53 (v5 + p1) (30 : Int32)).bind (fun v12 => (zaR M0 13 v1 v12).bind (fun v15 => some (v15, M0)))))
def fX1_begin_35  (M : Mem) (h0 : Nat) : Option (Nat × Mem) :=
  (zgI M 1 2 h0).bind (fun v37 => (zpI M 1 2 h0 (v37 + (1 : Int32))).bind (fun M42 => (zgI M42 1 2 h0).bind (fun v47 => (zck M42 1 h0).bind (fun u52 => (fX1_atIndex M42 h0 (v47 - (1 : Int32))).bind (fun r52 => some (r52.1, r52.2))))))
def fX1_begin (M0 : Mem) (p0 : Nat) : Option (Nat × Mem) :=
  (zpI M0 1 3 p0 (0 : Int32)).bind (fun M2 => (zgI M2 1 2 p0).bind (fun v6 => if v6 < (30 : Int32) then (fX1_begin_35  M2 p0) else ((zgI M2 1 1 p0).bind (fun v16 => (fJ9_floorMod_7cf53 (v16 + (1 : Int32)) (30 : Int32)).bind (fun v23 => (zpI M2 1 1 p0 v23).bind (fun M26 => (zpI M26 1 2 p0 (29 : Int32)).bind (fun M32 => fX1_begin_35  M32 p0)))))))
def fX1_stepBack (M0 : Mem) (p0 : Nat) : Option (Nat × Mem) :=
  (zgI M0 1 2 p0).bind (fun v2 => (zpI M0 1 2 p0 (v2 - (1 : Int32))).bind (fun M7 => (zgI M7 1 3 p0).bind (fun v12 => (zpI M7 1 3 p0 (v12 + (1 : Int32))).bind (fun M17 => (zgI M17 1 2 p0).bind (fun v22 => (zck M17 1 p0).bind (fun u25 => (fX1_atIndex M17 p0 v22).bind (fun r25 => some (r25.1, r25.2))))))))
def fX1_stepForward (M0 : Mem) (p0 : Nat) : Option (Nat × Mem) :=
  (zgI M0 1 2 p0).bind (fun v2 => (zpI M0 1 2 p0 (v2 + (1 : Int32))).bind (fun M7 => (zgI M7 1 3 p0).bind (fun v12 => (zpI M7 1 3 p0 (v12 - (1 : Int32))).bind (fun M17 => (zgI M17 1 2 p0).bind (fun v22 => (zck M17 1 p0).bind (fun u27 => (fX1_atIndex M17 p0 (v22 - (1 : Int32))).bind (fun r27 => some (r27.1, r27.2))))))))
def fX8_init_84 (M0 : Mem)  (k84 : Mem → Nat → Int32 → Option Mem) (M : Mem) (h0 : Nat) (x1 : Int32) : Option Mem :=
  if (10 : Int32) ≤ x1 then ((zno M 1 (M0.1 + 278)).bind (fun M112 => (fX1_init M112 M.1 ).bind (fun M116 => (zcg M112 M116 91 (M0.1 + 278)).bind (fun u116 => (zpR M116 8 6 h0 M.1).bind (fun M119 => some M119))))) else ((zgR M 8 4 h0).bind (fun v91 => (zno M 4 (M0.1 + 278)).bind (fun M95 => (fX4_init M95 M.1 (8 : Int32)).bind (fun M101 => (zcg M95 M101 1 (M0.1 + 278)).bind (fun u101 => (zsR M101 16 4 v91 x1 M.1).bind (fun M104 => zlt (x1 + (1 : Int32)) (fun x1_105 => k84 M104 h0 x1_105)))))))
def fX8_init_84L (M0 : Mem)  (n : Nat) : Mem → Nat → Int32 → Option Mem := zit (fun _ _ _ => none) (fX8_init_84 M0 ) n
def fX8_init_38 (M0 : Mem)  (k38 : Mem → Nat → Int32 → Option Mem) (M : Mem) (h0 : Nat) (x1 : Int32) : Option Mem :=
  if (3 : Int32) ≤ x1 then ((zno M 6 (M0.1 + 278)).bind (fun M63 => (fX6_init M63 M.1 ).bind (fun M67 => (zcg M63 M67 13 (M0.1 + 278)).bind (fun u67 => (zpR M67 8 3 h0 M.1).bind (fun M70 => (zna M70 16 (10 : Int32) (M0.1 + 278)).bind (fun M76 => (zpR M76 8 4 h0 M70.1).bind (fun M79 => fX8_init_84L M0  zFU M79 h0 (0 : Int32)))))))) else ((zgR M 8 2 h0).bind (fun v44 => (zno M 2 (M0.1 + 278)).bind (fun M48 => (fX2_init M48 M.1 ).bind (fun M52 => (zcg M48 M52 47 (M0.1 + 278)).bind (fun u52 => (zsR M52 14 2 v44 x1 M.1).bind (fun M55 => zlt (x1 + (1 : Int32)) (fun x1_56 => k38 M55 h0 x1_56)))))))
def fX8_init_38L (M0 : Mem)  (n : Nat) : Mem → Nat → Int32 → Option Mem := zit (fun _ _ _ => none) (fX8_init_38 M0 ) n
def fX8_init (M0 : Mem) (p0 : Nat) : Option Mem :=
  (zno M0 7 (M0.1 + 278)).bind (fun M5 => (fX7_init M5 M0.1 ).bind (fun M9 => (zcg M5 M9 3 (M0.1 + 278)).bind (fun u9 => (zpR M9 8 0 p0 M0.1).bind (fun M12 => (zno M12 4 (M0.1 + 278)).bind (fun M16 => (fX4_init M16 M12.1 (24 : Int32)).bind (fun M22 => (zcg M16 M22 1 (M0.1 + 278)).bind (fun u22 => (zpR M22 8 1 p0 M12.1).bind (fun M25 => (zna M25 14 (3 : Int32) (M0.1 + 278)).bind (fun M30 => (zpR M30 8 2 p0 M25.1).bind (fun M33 => fX8_init_38L M0  zFU M33 p0 (0 : Int32)))))))))))
def fX8_isCharacter (p0 : Int32) : Option Int32 :=
  if p0 < (32 : Int32) then (zrp .boolean (0 : Int32)) else (if (126 : Int32) < p0 then (zrp .boolean (0 : Int32)) else (zrp .boolean (1 : Int32)))
def fX8_setClass_43  (k43 : Mem → Nat → Int32 → Int32 → Option (Int32 × Mem)) (M : Mem) (h0 : Nat) (x3 : Int32) (x4 : Int32) : Option (Int32 × Mem) :=
  if (3 : Int32) ≤ x4 then (some (x3, M)) else ((zgR M 8 2 h0).bind (fun v50 => (zaR M 14 v50 x4).bind (fun v55 => (zgR M 8 0 h0).bind (fun v57 => (zck M 2 v55).bind (fun u60 => (fX2_analyseAll M v55 v57).bind (fun M60 => zlt (x4 + (1 : Int32)) (fun x4_63 => k43 M60 h0 x3 x4_63)))))))
def fX8_setClass_43L  (n : Nat) : Mem → Nat → Int32 → Int32 → Option (Int32 × Mem) := zit (fun _ _ _ _ => none) (fX8_setClass_43 ) n
def fX8_setClass (M0 : Mem) (p0 : Nat) (p1 : Int32) (p2 : Int32) : Option (Int32 × Mem) :=
  (fX8_isCharacter p1).bind (fun v1 => if v1 = 0 then (some ((-2 : Int32), M0)) else ((fX8_isClass p2).bind (fun v8 => if v8 = 0 then (some ((-2 : Int32), M0)) else ((zgR M0 8 0 p0).bind (fun v18 => (zck M0 7 v18).bind (fun u22 => (fX7_classOfCharacter M0 v18 p1).bind (fun r22 => if r22.1 = p2 then (some (r22.1, r22.2)) else ((zgR r22.2 8 0 p0).bind (fun v32 => (zck r22.2 7 v32).bind (fun u37 => (fX7_changeClass r22.2 v32 p1 p2).bind (fun M37 => fX8_setClass_43L  zFU M37 p0 r22.1 (0 : Int32))))))))))))
def fX8_classOf (M0 : Mem) (p0 : Nat) (p1 : Int32) : Option (Int32 × Mem) :=
  (fX8_isCharacter p1).bind (fun v1 => if v1 = 0 then (some ((-2 : Int32), M0)) else ((zgR M0 8 0 p0).bind (fun v8 => (zck M0 7 v8).bind (fun u12 => (fX7_classOfCharacter M0 v8 p1).bind (fun r12 => some (r12.1, r12.2))))))
def fX8_type (M0 : Mem) (p0 : Nat) (p1 : Int32) : Option (Int32 × Mem) :=
  (zgR M0 8 1 p0).bind (fun v1 => (zgI M0 4 1 v1).bind (fun v4 => if v4 < (24 : Int32) then ((zgR M0 8 1 p0).bind (fun v16 => (zck M0 4 v16).bind (fun u20 => (fX4_append M0 v16 p1).bind (fun M20 => (zgR M20 8 1 p0).bind (fun v24 => (zgI M20 4 1 v24).bind (fun v27 => some (v27, M20))))))) else (some ((-3 : Int32), M0))))
def fX8_clearPattern (M0 : Mem) (p0 : Nat) : Option (Int32 × Mem) :=
  (zgR M0 8 1 p0).bind (fun v1 => (zgI M0 4 1 v1).bind (fun v4 => (zgR M0 8 1 p0).bind (fun v9 => (zpI M0 4 1 v9 (0 : Int32)).bind (fun M13 => some (v4, M13)))))
def fX8_isKind (p0 : Int32) : Option Int32 :=
  if p0 < 0 then (zrp .boolean (0 : Int32)) else (if (3 : Int32) ≤ p0 then (zrp .boolean (0 : Int32)) else (zrp .boolean (1 : Int32)))
def fX8_isPlace (p0 : Int32) : Option Int32 :=
  if p0 < 0 then (zrp .boolean (0 : Int32)) else (if (5 : Int32) ≤ p0 then (zrp .boolean (0 : Int32)) else (zrp .boolean (1 : Int32)))
def fX8_isRepetition_18   : Option Int32 :=
  zrp .boolean (1 : Int32)
def fX8_isRepetition (p0 : Int32) : Option Int32 :=
  if p0 = (42 : Int32) then (fX8_isRepetition_18  ) else (if p0 = (43 : Int32) then (fX8_isRepetition_18  ) else (if p0 = (63 : Int32) then (fX8_isRepetition_18  ) else (zrp .boolean (0 : Int32))))
def fX8_faultOf_157 (k12 : Mem → Nat → Int32 → Int32 → Int32 → Int32 → Int32 → Option (Int32 × Mem)) (M : Mem) (h0 : Nat) (x1 : Int32) (x2 : Int32) (x3 : Int32) (x4 : Int32) (x5 : Int32) : Option (Int32 × Mem) :=
  zlt (x5 + (1 : Int32)) (fun x5_157 => k12 M h0 x1 x2 x3 x4 x5_157)
def fX8_faultOf_137 (k12 : Mem → Nat → Int32 → Int32 → Int32 → Int32 → Int32 → Option (Int32 × Mem)) (M : Mem) (h0 : Nat) (x1 : Int32) (x2 : Int32) (x3 : Int32) (x4 : Int32) (x5 : Int32) (x6 : Int32) : Option (Int32 × Mem) :=
  (fX8_isRepetition x6).bind (fun v139 => if v139 = 0 then (some (x5, M)) else (if x3 = 0 then (some (x5, M)) else (fX8_faultOf_157 k12 M h0 x1 x2 (0 : Int32) x4 x5)))
def fX8_faultOf_107 (k12 : Mem → Nat → Int32 → Int32 → Int32 → Int32 → Int32 → Option (Int32 × Mem)) (M : Mem) (h0 : Nat) (x1 : Int32) (x2 : Int32) (x3 : Int32) (x4 : Int32) (x5 : Int32) (x6 : Int32) : Option (Int32 × Mem) :=
  if x6 = (47 : Int32) then (if x2 = 0 then (fX8_faultOf_137 k12 M h0 x1 x2 x3 x4 x5 x6) else (if x1 = 0 then (if x4 = 0 then (fX8_faultOf_157 k12 M h0 x1 (0 : Int32) (0 : Int32) (1 : Int32) x5) else (fX8_faultOf_137 k12 M h0 x1 x2 x3 x4 x5 x6)) else (fX8_faultOf_137 k12 M h0 x1 x2 x3 x4 x5 x6))) else (fX8_faultOf_137 k12 M h0 x1 x2 x3 x4 x5 x6)
def fX8_faultOf_89 (k12 : Mem → Nat → Int32 → Int32 → Int32 → Int32 → Int32 → Option (Int32 × Mem)) (M : Mem) (h0 : Nat) (x1 : Int32) (x2 : Int32) (x3 : Int32) (x4 : Int32) (x5 : Int32) (x6 : Int32) : Option (Int32 × Mem) :=
  if x6 = (124 : Int32) then (if x2 = 0 then (fX8_faultOf_107 k12 M h0 x1 x2 x3 x4 x5 x6) else (fX8_faultOf_157 k12 M h0 x1 (0 : Int32) (0 : Int32) x4 x5)) else (fX8_faultOf_107 k12 M h0 x1 x2 x3 x4 x5 x6)
def fX8_faultOf_66 (k12 : Mem → Nat → Int32 → Int32 → Int32 → Int32 → Int32 → Option (Int32 × Mem)) (M : Mem) (h0 : Nat) (x1 : Int32) (x2 : Int32) (x3 : Int32) (x4 : Int32) (x5 : Int32) (x6 : Int32) : Option (Int32 × Mem) :=
  if x6 = (41 : Int32) then (if x1 ≤ 0 then (fX8_faultOf_89 k12 M h0 x1 x2 x3 x4 x5 x6) else (if x2 = 0 then (fX8_faultOf_89 k12 M h0 x1 x2 x3 x4 x5 x6) else (zlt (x1 + (-1 : Int32)) (fun x1_81 => fX8_faultOf_157 k12 M h0 x1_81 x2 (1 : Int32) x4 x5)))) else (fX8_faultOf_89 k12 M h0 x1 x2 x3 x4 x5 x6)
def fX8_faultOf_175  (M : Mem) (h0 : Nat) : Option (Int32 × Mem) :=
  (zgI M 4 1 h0).bind (fun v176 => some (v176, M))
def fX8_faultOf_12  (k12 : Mem → Nat → Int32 → Int32 → Int32 → Int32 → Int32 → Option (Int32 × Mem)) (M : Mem) (h0 : Nat) (x1 : Int32) (x2 : Int32) (x3 : Int32) (x4 : Int32) (x5 : Int32) : Option (Int32 × Mem) :=
  (zgI M 4 1 h0).bind (fun v15 => if v15 ≤ x5 then (if x2 = 0 then (fX8_faultOf_175  M h0) else (if x1 = 0 then (some ((-1 : Int32), M)) else (fX8_faultOf_175  M h0))) else ((zck M 4 h0).bind (fun u24 => (fX4_at M h0 x5).bind (fun r24 => (fX8_isClassLetterOrDot r24.1).bind (fun v31 => if v31 = 0 then (if r24.1 = (40 : Int32) then (if (4 : Int32) ≤ x1 then (fX8_faultOf_66 k12 r24.2 h0 x1 x2 x3 x4 x5 r24.1) else (zlt (x1 + (1 : Int32)) (fun x1_56 => fX8_faultOf_157 k12 r24.2 h0 x1_56 (0 : Int32) (0 : Int32) x4 x5))) else (fX8_faultOf_66 k12 r24.2 h0 x1 x2 x3 x4 x5 r24.1)) else (fX8_faultOf_157 k12 r24.2 h0 x1 (1 : Int32) (1 : Int32) x4 x5))))))
def fX8_faultOf_12L  (n : Nat) : Mem → Nat → Int32 → Int32 → Int32 → Int32 → Int32 → Option (Int32 × Mem) := zit (fun _ _ _ _ _ _ _ => none) (fX8_faultOf_12 ) n
def fX8_faultOf (M0 : Mem) (p0 : Nat) : Option (Int32 × Mem) :=
  fX8_faultOf_12L  zFU M0 p0 (0 : Int32) (0 : Int32) (0 : Int32) (0 : Int32) (0 : Int32)
def fX8_setRule_118  (M : Mem) (x4 : Int32) : Option (Int32 × Mem) :=
  if x4 = 0 then (some ((0 : Int32), M)) else (some ((1 : Int32), M))
def fX8_setRule_78  (M : Mem) (h0 : Nat) (x1 : Int32) (h3 : Nat) (x4 : Int32) : Option (Int32 × Mem) :=
  (zgR M 5 0 h3).bind (fun v79 => (zgR M 8 1 h0).bind (fun v83 => (zgR M 8 1 h0).bind (fun v88 => (zgI M 4 1 v88).bind (fun v91 => (zck M 4 v79).bind (fun u94 => (fX4_become M v79 v83 (0 : Int32) v91).bind (fun M94 => (zgR M94 8 3 h0).bind (fun v98 => (zck M94 6 v98).bind (fun u102 => (fX6_build M94 v98 h3).bind (fun M102 => (zgR M102 8 2 h0).bind (fun v106 => (zaR M102 14 v106 x1).bind (fun v110 => (zgR M102 8 0 h0).bind (fun v112 => (zck M102 2 v110).bind (fun u115 => (fX2_analyseAll M102 v110 v112).bind (fun M115 => fX8_setRule_118  M115 x4))))))))))))))
def fX8_setRule_45  (M : Mem) (h0 : Nat) (x1 : Int32) (x2 : Int32) : Option (Int32 × Mem) :=
  (zgR M 8 2 h0).bind (fun v46 => (zaR M 14 v46 x1).bind (fun v50 => (zgR M 2 0 v50).bind (fun v51 => (zaR M 17 v51 x2).bind (fun v55 => (zck M 5 v55).bind (fun u58 => (fX5_isSet M v55 ).bind (fun r58 => if r58.1 = 0 then ((zgR r58.2 8 1 h0).bind (fun v69 => (zgI r58.2 4 1 v69).bind (fun v72 => if v72 ≤ 0 then (fX8_setRule_118  r58.2 r58.1) else (fX8_setRule_78  r58.2 h0 x1 v55 r58.1)))) else (fX8_setRule_78  r58.2 h0 x1 v55 r58.1)))))))
def fX8_setRule (M0 : Mem) (p0 : Nat) (p1 : Int32) (p2 : Int32) : Option (Int32 × Mem) :=
  (fX8_isKind p1).bind (fun v1 => if v1 = 0 then (some ((-2 : Int32), M0)) else ((fX8_isPlace p2).bind (fun v8 => if v8 = 0 then (some ((-2 : Int32), M0)) else ((zgR M0 8 1 p0).bind (fun v18 => (zgI M0 4 1 v18).bind (fun v21 => if v21 ≤ 0 then (fX8_setRule_45  M0 p0 p1 p2) else ((zgR M0 8 1 p0).bind (fun v28 => (fX8_faultOf M0  v28).bind (fun r31 => if r31.1 = (-1 : Int32) then (fX8_setRule_45  r31.2 p0 p1 p2) else (some ((-100 : Int32) - r31.1, r31.2)))))))))))
def fX8_ruleText (M0 : Mem) (p0 : Nat) (p1 : Int32) (p2 : Int32) (p3 : Int32) : Option (Int32 × Mem) :=
  (fX8_isKind p1).bind (fun v1 => if v1 = 0 then (some ((-2 : Int32), M0)) else ((fX8_isPlace p2).bind (fun v8 => if v8 = 0 then (some ((-2 : Int32), M0)) else (if 0 ≤ p3 then ((zgR M0 8 2 p0).bind (fun v22 => (zaR M0 14 v22 p1).bind (fun v26 => (zgR M0 2 0 v26).bind (fun v27 => (zaR M0 17 v27 p2).bind (fun v31 => (zgR M0 5 0 v31).bind (fun v32 => (zgI M0 4 1 v32).bind (fun v40 => if v40 ≤ p3 then (some ((-5 : Int32), M0)) else ((zck M0 4 v32).bind (fun u49 => (fX4_at M0 v32 p3).bind (fun r49 => some (r49.1, r49.2))))))))))) else (some ((-2 : Int32), M0))))))
def fX8_isPosition (M0 : Mem) (p0 : Nat) (p1 : Int32) : Option (Int32 × Mem) :=
  if p1 < 0 then (zrt .boolean (0 : Int32) M0) else ((zgR M0 8 0 p0).bind (fun v6 => (zgR M0 7 0 v6).bind (fun v9 => (zgI M0 4 1 v9).bind (fun v12 => if v12 < p1 then (zrt .boolean (0 : Int32) M0) else (zrt .boolean (1 : Int32) M0)))))
def fX8_matchLength (M0 : Mem) (p0 : Nat) (p1 : Int32) (p2 : Int32) (p3 : Int32) : Option (Int32 × Mem) :=
  (fX8_isKind p1).bind (fun v1 => if v1 = 0 then (some ((-2 : Int32), M0)) else ((fX8_isPlace p2).bind (fun v8 => if v8 = 0 then (some ((-2 : Int32), M0)) else ((zck M0 8 p0).bind (fun u19 => (fX8_isPosition M0 p0 p3).bind (fun r19 => if r19.1 = 0 then (some ((-1 : Int32), r19.2)) else ((zgR r19.2 8 2 p0).bind (fun v28 => (zaR r19.2 14 v28 p1).bind (fun v32 => (zgR r19.2 2 0 v32).bind (fun v33 => (zaR r19.2 17 v33 p2).bind (fun v37 => (zck r19.2 5 v37).bind (fun u42 => (fX5_isSet r19.2 v37 ).bind (fun r42 => if r42.1 = 0 then (some ((-5 : Int32), r42.2)) else ((zgR r42.2 8 0 p0).bind (fun v54 => (zck r42.2 5 v37).bind (fun u58 => (fX5_walk r42.2 v37 v54 p3).bind (fun M58 => (zgI M58 5 7 v37).bind (fun v63 => some (v63, M58)))))))))))))))))))
def fX8_isExceptionWord_21  (k21 : Mem → Nat → Int32 → Option (Int32 × Mem)) (M : Mem) (h0 : Nat) (x1 : Int32) : Option (Int32 × Mem) :=
  (zgI M 4 1 h0).bind (fun v23 => if v23 ≤ x1 then (zrt .boolean (1 : Int32) M) else ((zck M 4 h0).bind (fun u31 => (fX4_at M h0 x1).bind (fun r31 => (fX8_isCharacter r31.1).bind (fun v34 => if v34 = 0 then (zrt .boolean (0 : Int32) r31.2) else (zlt (x1 + (1 : Int32)) (fun x1_42 => k21 r31.2 h0 x1_42)))))))
def fX8_isExceptionWord_21L  (n : Nat) : Mem → Nat → Int32 → Option (Int32 × Mem) := zit (fun _ _ _ => none) (fX8_isExceptionWord_21 ) n
def fX8_isExceptionWord (M0 : Mem) (p0 : Nat) : Option (Int32 × Mem) :=
  (zgI M0 4 1 p0).bind (fun v1 => if v1 < (1 : Int32) then (zrt .boolean (0 : Int32) M0) else ((zgI M0 4 1 p0).bind (fun v9 => if v9 ≤ (8 : Int32) then (fX8_isExceptionWord_21L  zFU M0 p0 (0 : Int32)) else (zrt .boolean (0 : Int32) M0))))
def fX8_exceptionAt_3  (k3 : Mem → Nat → Nat → Int32 → Int32 → Int32 → Option (Int32 × Mem)) (M : Mem) (h0 : Nat) (h1 : Nat) (x2 : Int32) (x3 : Int32) (x4 : Int32) : Option (Int32 × Mem) :=
  (zgI M 8 5 h0).bind (fun v6 => if v6 ≤ x4 then (some ((-5 : Int32), M)) else ((zgR M 8 4 h0).bind (fun v13 => (zaR M 16 v13 x4).bind (fun v18 => (zck M 4 v18).bind (fun u22 => (fX4_isPartOf M v18 h1 x2 x3).bind (fun r22 => if r22.1 = 0 then (zlt (x4 + (1 : Int32)) (fun x4_31 => k3 r22.2 h0 h1 x2 x3 x4_31)) else (some (x4, r22.2))))))))
def fX8_exceptionAt_3L  (n : Nat) : Mem → Nat → Nat → Int32 → Int32 → Int32 → Option (Int32 × Mem) := zit (fun _ _ _ _ _ _ => none) (fX8_exceptionAt_3 ) n
def fX8_exceptionAt (M0 : Mem) (p0 : Nat) (p1 : Nat) (p2 : Int32) (p3 : Int32) : Option (Int32 × Mem) :=
  fX8_exceptionAt_3L  zFU M0 p0 p1 p2 p3 (0 : Int32)
def fX8_addException (M0 : Mem) (p0 : Nat) : Option (Int32 × Mem) :=
  (zgR M0 8 1 p0).bind (fun v1 => (fX8_isExceptionWord M0  v1).bind (fun r4 => if r4.1 = 0 then (some ((-2 : Int32), r4.2)) else ((zgR r4.2 8 1 p0).bind (fun v15 => (zgR r4.2 8 1 p0).bind (fun v20 => (zgI r4.2 4 1 v20).bind (fun v23 => (zck r4.2 8 p0).bind (fun u26 => (fX8_exceptionAt r4.2 p0 v15 (0 : Int32) v23).bind (fun r26 => if r26.1 = (-5 : Int32) then ((zgI r26.2 8 5 p0).bind (fun v38 => if v38 < (10 : Int32) then ((zgR r26.2 8 4 p0).bind (fun v50 => (zgI r26.2 8 5 p0).bind (fun v54 => (zaR r26.2 16 v50 v54).bind (fun v57 => (zgR r26.2 8 1 p0).bind (fun v59 => (zgR r26.2 8 1 p0).bind (fun v64 => (zgI r26.2 4 1 v64).bind (fun v67 => (zck r26.2 4 v57).bind (fun u70 => (fX4_become r26.2 v57 v59 (0 : Int32) v67).bind (fun M70 => (zgI M70 8 5 p0).bind (fun v75 => (zpI M70 8 5 p0 (v75 + (1 : Int32))).bind (fun M80 => (zgI M80 8 5 p0).bind (fun v84 => some (v84, M80))))))))))))) else (some ((-3 : Int32), r26.2)))) else (some ((-4 : Int32), r26.2))))))))))
def fX8_removeException (M0 : Mem) (p0 : Nat) : Option (Int32 × Mem) :=
  (zgR M0 8 1 p0).bind (fun v2 => (zgR M0 8 1 p0).bind (fun v7 => (zgI M0 4 1 v7).bind (fun v10 => (zck M0 8 p0).bind (fun u13 => (fX8_exceptionAt M0 p0 v2 (0 : Int32) v10).bind (fun r13 => if r13.1 = (-5 : Int32) then (some ((-5 : Int32), r13.2)) else ((zgI r13.2 8 5 p0).bind (fun v28 => (zpI r13.2 8 5 p0 (v28 - (1 : Int32))).bind (fun M33 => (zgR M33 8 4 p0).bind (fun v37 => (zaR M33 16 v37 r13.1).bind (fun v41 => (zgR M33 8 4 p0).bind (fun v44 => (zgR M33 8 4 p0).bind (fun v49 => (zgI M33 8 5 p0).bind (fun v53 => (zaR M33 16 v49 v53).bind (fun v56 => (zsR M33 16 4 v44 r13.1 v56).bind (fun M57 => (zgR M57 8 4 p0).bind (fun v59 => (zgI M57 8 5 p0).bind (fun v63 => (zsR M57 16 4 v59 v63 v41).bind (fun M67 => (zgI M67 8 5 p0).bind (fun v69 => some (v69, M67))))))))))))))))))))
def fX8_carryOut_134 (k82 : Mem → Nat → Int32 → Int32 → Int32 → Int32 → Int32 → Int32 → Option Mem) (M : Mem) (h0 : Nat) (x2 : Int32) (x3 : Int32) (x4 : Int32) (x5 : Int32) (x6 : Int32) (x7 : Int32) (h8 : Nat) (x9 : Int32) : Option Mem :=
  (zgR M 8 0 h0).bind (fun v137 => (zck M 2 h8).bind (fun u144 => (fX2_analyse M h8 v137 x9 x6).bind (fun M144 => zlt (x7 + (1 : Int32)) (fun x7_147 => k82 M144 h0 x2 x3 x4 x5 x6 x7_147))))
def fX8_carryOut_82  (k82 : Mem → Nat → Int32 → Int32 → Int32 → Int32 → Int32 → Int32 → Option Mem) (M : Mem) (h0 : Nat) (x2 : Int32) (x3 : Int32) (x4 : Int32) (x5 : Int32) (x6 : Int32) (x7 : Int32) : Option Mem :=
  if (3 : Int32) ≤ x7 then (some M) else ((zgR M 8 2 h0).bind (fun v89 => (zaR M 14 v89 x7).bind (fun v94 => (zck M 2 v94).bind (fun u102 => (fX2_firstTouched M v94 x4 x3).bind (fun r102 => if x2 = 0 then ((zck r102.2 2 v94).bind (fun u131 => (fX2_moveDown r102.2 v94 x4 x5 x3).bind (fun M131 => fX8_carryOut_134 k82 M131 h0 x2 x3 x4 x5 x6 x7 v94 r102.1))) else ((zck r102.2 2 v94).bind (fun u118 => (fX2_moveUp r102.2 v94 x4 x5 x3).bind (fun M118 => fX8_carryOut_134 k82 M118 h0 x2 x3 x4 x5 x6 x7 v94 r102.1))))))))
def fX8_carryOut_82L  (n : Nat) : Mem → Nat → Int32 → Int32 → Int32 → Int32 → Int32 → Int32 → Option Mem := zit (fun _ _ _ _ _ _ _ _ => none) (fX8_carryOut_82 ) n
def fX8_carryOut_77  (M : Mem) (h0 : Nat) (x2 : Int32) (x3 : Int32) (x4 : Int32) (x5 : Int32) (y0 : Int32) : Option Mem :=
  fX8_carryOut_82L  zFU M h0 x2 x3 x4 x5 y0 (0 : Int32)
def fX8_carryOut_63  (M : Mem) (h0 : Nat) (x2 : Int32) (x3 : Int32) (x4 : Int32) (x5 : Int32) : Option Mem :=
  if x2 = 0 then (fX8_carryOut_77  M h0 x2 x3 x4 x5 x4) else (fX8_carryOut_77  M h0 x2 x3 x4 x5 (x4 + x5))
def fX8_carryOut (M0 : Mem) (p0 : Nat) (p1 : Nat) (p2 : Int32) : Option Mem :=
  (zgR M0 8 0 p0).bind (fun v1 => (zgR M0 7 0 v1).bind (fun v4 => (zgI M0 4 1 v4).bind (fun v7 => (zgI M0 0 2 p1).bind (fun v12 => (zgR M0 0 0 p1).bind (fun v18 => (zgI M0 4 1 v18).bind (fun v21 => if p2 = 0 then ((zgR M0 8 0 p0).bind (fun v50 => (zgR M0 7 0 v50).bind (fun v53 => (zck M0 4 v53).bind (fun u60 => (fX4_takeOut M0 v53 v12 v21).bind (fun M60 => fX8_carryOut_63  M60 p0 p2 v7 v12 v21))))) else ((zgR M0 8 0 p0).bind (fun v31 => (zgR M0 7 0 v31).bind (fun v34 => (zgR M0 0 0 p1).bind (fun v40 => (zck M0 4 v34).bind (fun u43 => (fX4_putIn M0 v34 v12 v40).bind (fun M43 => fX8_carryOut_63  M43 p0 p2 v7 v12 v21))))))))))))
def fX8_insert (M0 : Mem) (p0 : Nat) (p1 : Int32) (p2 : Int32) : Option (Int32 × Mem) :=
  (zck M0 8 p0).bind (fun u2 => (fX8_isPosition M0 p0 p1).bind (fun r2 => if r2.1 = 0 then (some ((-1 : Int32), r2.2)) else ((fX8_isCharacter p2).bind (fun v11 => if v11 = 0 then (some ((-2 : Int32), r2.2)) else ((zgR r2.2 8 0 p0).bind (fun v21 => (zgR r2.2 7 0 v21).bind (fun v24 => (zgI r2.2 4 1 v24).bind (fun v27 => if v27 < (100 : Int32) then ((zgR r2.2 8 6 p0).bind (fun v39 => (zck r2.2 1 v39).bind (fun u42 => (fX1_begin r2.2 v39 ).bind (fun r42 => (zpZ r42.2 0 1 r42.1 (1 : Int32)).bind (fun M48 => (zpI M48 0 2 r42.1 p1).bind (fun M53 => (zgR M53 0 0 r42.1).bind (fun v57 => (zpI M53 4 1 v57 (0 : Int32)).bind (fun M61 => (zgR M61 0 0 r42.1).bind (fun v65 => (zck M61 4 v65).bind (fun u69 => (fX4_append M61 v65 p2).bind (fun M69 => (zck M69 8 p0).bind (fun u75 => (fX8_carryOut M69 p0 r42.1 (1 : Int32)).bind (fun M75 => (zgR M75 8 0 p0).bind (fun v79 => (zgR M75 7 0 v79).bind (fun v82 => (zgI M75 4 1 v82).bind (fun v85 => some (v85, M75))))))))))))))))) else (some ((-3 : Int32), r2.2))))))))))
def fX8_isPositionOfCharacter (M0 : Mem) (p0 : Nat) (p1 : Int32) : Option (Int32 × Mem) :=
  if p1 < 0 then (zrt .boolean (0 : Int32) M0) else ((zgR M0 8 0 p0).bind (fun v6 => (zgR M0 7 0 v6).bind (fun v9 => (zgI M0 4 1 v9).bind (fun v12 => if v12 ≤ p1 then (zrt .boolean (0 : Int32) M0) else (zrt .boolean (1 : Int32) M0)))))
def fX8_erase (M0 : Mem) (p0 : Nat) (p1 : Int32) (p2 : Int32) : Option (Int32 × Mem) :=
  (zck M0 8 p0).bind (fun u2 => (fX8_isPositionOfCharacter M0 p0 p1).bind (fun r2 => if r2.1 = 0 then (some ((-1 : Int32), r2.2)) else (if p2 < (1 : Int32) then (some ((-2 : Int32), r2.2)) else ((zgR r2.2 8 0 p0).bind (fun v17 => (zgR r2.2 7 0 v17).bind (fun v20 => (zgI r2.2 4 1 v20).bind (fun v23 => if p2 ≤ (v23 - p1) then ((zgR r2.2 8 6 p0).bind (fun v35 => (zck r2.2 1 v35).bind (fun u38 => (fX1_begin r2.2 v35 ).bind (fun r38 => (zpZ r38.2 0 1 r38.1 (0 : Int32)).bind (fun M44 => (zpI M44 0 2 r38.1 p1).bind (fun M49 => (zgR M49 0 0 r38.1).bind (fun v53 => (zgR M49 8 0 p0).bind (fun v57 => (zgR M49 7 0 v57).bind (fun v60 => (zck M49 4 v53).bind (fun u65 => (fX4_become M49 v53 v60 p1 p2).bind (fun M65 => (zck M65 8 p0).bind (fun u71 => (fX8_carryOut M65 p0 r38.1 (0 : Int32)).bind (fun M71 => (zgR M71 8 0 p0).bind (fun v75 => (zgR M71 7 0 v75).bind (fun v78 => (zgI M71 4 1 v78).bind (fun v81 => some (v81, M71))))))))))))))))) else (some ((-2 : Int32), r2.2)))))))))
def fX8_undo_35  (M : Mem) (h0 : Nat) (g0 : Nat) (g1 : Nat) (y2 : Int32) : Option (Int32 × Mem) :=
  (zck M 8 g0).bind (fun u35 => (fX8_carryOut M g0 g1 y2).bind (fun M35 => (zgR M35 8 6 h0).bind (fun v39 => (zgI M35 1 2 v39).bind (fun v42 => some (v42, M35)))))
def fX8_undo (M0 : Mem) (p0 : Nat) : Option (Int32 × Mem) :=
  (zgR M0 8 6 p0).bind (fun v1 => (zgI M0 1 2 v1).bind (fun v4 => if 0 < v4 then ((zgR M0 8 6 p0).bind (fun v14 => (zck M0 1 v14).bind (fun u17 => (fX1_stepBack M0 v14 ).bind (fun r17 => (zgI r17.2 0 1 r17.1).bind (fun v24 => if v24 = 0 then (fX8_undo_35  r17.2 p0 p0 r17.1 (1 : Int32)) else (fX8_undo_35  r17.2 p0 p0 r17.1 (0 : Int32))))))) else (some ((-5 : Int32), M0))))
def fX8_redo (M0 : Mem) (p0 : Nat) : Option (Int32 × Mem) :=
  (zgR M0 8 6 p0).bind (fun v1 => (zgI M0 1 3 v1).bind (fun v4 => if 0 < v4 then ((zgR M0 8 6 p0).bind (fun v14 => (zck M0 1 v14).bind (fun u17 => (fX1_stepForward M0 v14 ).bind (fun r17 => (zgI r17.2 0 1 r17.1).bind (fun v24 => (zck r17.2 8 p0).bind (fun u27 => (fX8_carryOut r17.2 p0 r17.1 v24).bind (fun M27 => (zgR M27 8 6 p0).bind (fun v31 => (zgI M27 1 3 v31).bind (fun v34 => some (v34, M27)))))))))) else (some ((-5 : Int32), M0))))
def fX8_charAt (M0 : Mem) (p0 : Nat) (p1 : Int32) : Option (Int32 × Mem) :=
  (zck M0 8 p0).bind (fun u2 => (fX8_isPositionOfCharacter M0 p0 p1).bind (fun r2 => if r2.1 = 0 then (some ((-1 : Int32), r2.2)) else ((zgR r2.2 8 0 p0).bind (fun v9 => (zgR r2.2 7 0 v9).bind (fun v12 => (zck r2.2 4 v12).bind (fun u16 => (fX4_at r2.2 v12 p1).bind (fun r16 => some (r16.1, r16.2))))))))
def fX8_value (M0 : Mem) (p0 : Nat) (p1 : Int32) : Option (Int32 × Mem) :=
  if p1 = (0 : Int32) then ((zgR M0 8 0 p0).bind (fun v37 => (zgR M0 7 0 v37).bind (fun v40 => (zgI M0 4 1 v40).bind (fun v43 => some (v43, M0))))) else (if p1 = (1 : Int32) then ((zgR M0 8 1 p0).bind (fun v48 => (zgI M0 4 1 v48).bind (fun v51 => some (v51, M0)))) else (if p1 = (2 : Int32) then ((zgI M0 8 5 p0).bind (fun v56 => some (v56, M0))) else (if p1 = (3 : Int32) then ((zgR M0 8 6 p0).bind (fun v61 => (zgI M0 1 2 v61).bind (fun v64 => some (v64, M0)))) else (if p1 = (4 : Int32) then ((zgR M0 8 6 p0).bind (fun v69 => (zgI M0 1 3 v69).bind (fun v72 => some (v72, M0)))) else (some ((-2 : Int32), M0))))))
def fX8_isExceptionBefore_25  (M : Mem) (h0 : Nat) (x1 : Int32) (x2 : Int32) : Option (Int32 × Mem) :=
  (zgR M 8 0 h0).bind (fun v27 => (zgR M 7 0 v27).bind (fun v30 => (zck M 8 h0).bind (fun u37 => (fX8_exceptionAt M h0 v30 x2 (x1 - x2)).bind (fun r37 => if r37.1 = (-5 : Int32) then (zrt .boolean (0 : Int32) r37.2) else (zrt .boolean (1 : Int32) r37.2)))))
def fX8_isExceptionBefore_2  (k2 : Mem → Nat → Int32 → Int32 → Option (Int32 × Mem)) (M : Mem) (h0 : Nat) (x1 : Int32) (x2 : Int32) : Option (Int32 × Mem) :=
  if x2 ≤ 0 then (fX8_isExceptionBefore_25  M h0 x1 x2) else ((zgR M 8 0 h0).bind (fun v7 => (zck M 7 v7).bind (fun u13 => (fX7_classAt M v7 (x2 - (1 : Int32))).bind (fun r13 => if r13.1 = 0 then (zlt (x2 + (-1 : Int32)) (fun x2_19 => k2 r13.2 h0 x1 x2_19)) else (fX8_isExceptionBefore_25  r13.2 h0 x1 x2)))))
def fX8_isExceptionBefore_2L  (n : Nat) : Mem → Nat → Int32 → Int32 → Option (Int32 × Mem) := zit (fun _ _ _ _ => none) (fX8_isExceptionBefore_2 ) n
def fX8_isExceptionBefore (M0 : Mem) (p0 : Nat) (p1 : Int32) : Option (Int32 × Mem) :=
  fX8_isExceptionBefore_2L  zFU M0 p0 p1 p1
def fX8_isBehindException_34 (k4 : Mem → Nat → Int32 → Option (Int32 × Mem)) (M : Mem) (h0 : Nat) (x2 : Int32) : Option (Int32 × Mem) :=
  (zgR M 8 0 h0).bind (fun v35 => (zck M 7 v35).bind (fun u39 => (fX7_classAt M v35 x2).bind (fun r39 => if r39.1 = (2 : Int32) then (zlt (x2 + (-1 : Int32)) (fun x2_48 => k4 r39.2 h0 x2_48)) else (zrt .boolean (0 : Int32) r39.2))))
def fX8_isBehindException_4  (k4 : Mem → Nat → Int32 → Option (Int32 × Mem)) (M : Mem) (h0 : Nat) (x2 : Int32) : Option (Int32 × Mem) :=
  if x2 ≤ 0 then (zrt .boolean (0 : Int32) M) else ((zgR M 8 0 h0).bind (fun v9 => (zgR M 7 0 v9).bind (fun v12 => (zck M 4 v12).bind (fun u16 => (fX4_at M v12 x2).bind (fun r16 => if r16.1 = (46 : Int32) then ((zck r16.2 8 h0).bind (fun u26 => (fX8_isExceptionBefore r16.2 h0 x2).bind (fun r26 => if r26.1 = 0 then (fX8_isBehindException_34 k4 r26.2 h0 x2) else (zrt .boolean (1 : Int32) r26.2)))) else (fX8_isBehindException_34 k4 r16.2 h0 x2))))))
def fX8_isBehindException_4L  (n : Nat) : Mem → Nat → Int32 → Option (Int32 × Mem) := zit (fun _ _ _ => none) (fX8_isBehindException_4 ) n
def fX8_isBehindException (M0 : Mem) (p0 : Nat) (p1 : Int32) : Option (Int32 × Mem) :=
  zlt (p1 - (1 : Int32)) (fun x2_3 => fX8_isBehindException_4L  zFU M0 p0 x2_3)
def fX8_stateAt_48  (M : Mem) (h0 : Nat) (x1 : Int32) (x2 : Int32) (y0 : Int32) : Option (Int32 × Mem) :=
  if x1 = (2 : Int32) then (if y0 = 0 then (some ((1 : Int32), M)) else ((zck M 8 h0).bind (fun u60 => (fX8_isBehindException M h0 x2).bind (fun r60 => if r60.1 = 0 then (some ((1 : Int32), r60.2)) else (some ((2 : Int32), r60.2)))))) else (some ((1 : Int32), M))
def fX8_stateAt_47  (M : Mem) (h0 : Nat) (x1 : Int32) (x2 : Int32) : Option (Int32 × Mem) :=
  fX8_stateAt_48  M h0 x1 x2 (0 : Int32)
def fX8_stateAt (M0 : Mem) (p0 : Nat) (p1 : Int32) (p2 : Int32) : Option (Int32 × Mem) :=
  (zgR M0 8 2 p0).bind (fun v1 => (zaR M0 14 v1 p1).bind (fun v5 => (zgR M0 8 0 p0).bind (fun v8 => (zgR M0 7 0 v8).bind (fun v11 => (zgI M0 4 1 v11).bind (fun v14 => (zck M0 2 v5).bind (fun u17 => (fX2_isRaw M0 v5 p2 v14).bind (fun r17 => if r17.1 = 0 then (some ((0 : Int32), r17.2)) else (if p2 ≤ 0 then (fX8_stateAt_47  r17.2 p0 p1 p2) else ((zgR r17.2 8 0 p0).bind (fun v31 => (zgR r17.2 7 0 v31).bind (fun v34 => (zgI r17.2 4 1 v34).bind (fun v37 => if v37 ≤ p2 then (fX8_stateAt_47  r17.2 p0 p1 p2) else (fX8_stateAt_48  r17.2 p0 p1 p2 (1 : Int32))))))))))))))
def fX8_boundaryAt (M0 : Mem) (p0 : Nat) (p1 : Int32) (p2 : Int32) : Option (Int32 × Mem) :=
  (fX8_isKind p1).bind (fun v1 => if v1 = 0 then (some ((-2 : Int32), M0)) else ((zck M0 8 p0).bind (fun u12 => (fX8_isPosition M0 p0 p2).bind (fun r12 => if r12.1 = 0 then (some ((-1 : Int32), r12.2)) else ((zck r12.2 8 p0).bind (fun u21 => (fX8_stateAt r12.2 p0 p1 p2).bind (fun r21 => some (r21.1, r21.2))))))))
def fX8_boundaryBehind_4  (k4 : Mem → Nat → Int32 → Int32 → Option (Int32 × Mem)) (M : Mem) (h0 : Nat) (x1 : Int32) (x3 : Int32) : Option (Int32 × Mem) :=
  (zgR M 8 0 h0).bind (fun v6 => (zgR M 7 0 v6).bind (fun v9 => (zgI M 4 1 v9).bind (fun v12 => if v12 < x3 then (some ((-5 : Int32), M)) else ((zck M 8 h0).bind (fun u21 => (fX8_stateAt M h0 x1 x3).bind (fun r21 => if r21.1 = (1 : Int32) then (some (x3, r21.2)) else (zlt (x3 + (1 : Int32)) (fun x3_30 => k4 r21.2 h0 x1 x3_30))))))))
def fX8_boundaryBehind_4L  (n : Nat) : Mem → Nat → Int32 → Int32 → Option (Int32 × Mem) := zit (fun _ _ _ _ => none) (fX8_boundaryBehind_4 ) n
def fX8_boundaryBehind (M0 : Mem) (p0 : Nat) (p1 : Int32) (p2 : Int32) : Option (Int32 × Mem) :=
  zlt (p2 + (1 : Int32)) (fun x3_3 => fX8_boundaryBehind_4L  zFU M0 p0 p1 x3_3)
def fX8_next (M0 : Mem) (p0 : Nat) (p1 : Int32) (p2 : Int32) : Option (Int32 × Mem) :=
  (fX8_isKind p1).bind (fun v1 => if v1 = 0 then (some ((-2 : Int32), M0)) else ((zck M0 8 p0).bind (fun u12 => (fX8_isPosition M0 p0 p2).bind (fun r12 => if r12.1 = 0 then (some ((-1 : Int32), r12.2)) else ((zck r12.2 8 p0).bind (fun u21 => (fX8_boundaryBehind r12.2 p0 p1 p2).bind (fun r21 => some (r21.1, r21.2))))))))
def fX8_previous_24  (k24 : Mem → Nat → Int32 → Int32 → Option (Int32 × Mem)) (M : Mem) (h0 : Nat) (x1 : Int32) (x3 : Int32) : Option (Int32 × Mem) :=
  if x3 < 0 then (some ((-5 : Int32), M)) else ((zck M 8 h0).bind (fun u31 => (fX8_stateAt M h0 x1 x3).bind (fun r31 => if r31.1 = (1 : Int32) then (some (x3, r31.2)) else (zlt (x3 + (-1 : Int32)) (fun x3_40 => k24 r31.2 h0 x1 x3_40)))))
def fX8_previous_24L  (n : Nat) : Mem → Nat → Int32 → Int32 → Option (Int32 × Mem) := zit (fun _ _ _ _ => none) (fX8_previous_24 ) n
def fX8_previous (M0 : Mem) (p0 : Nat) (p1 : Int32) (p2 : Int32) : Option (Int32 × Mem) :=
  (fX8_isKind p1).bind (fun v1 => if v1 = 0 then (some ((-2 : Int32), M0)) else ((zck M0 8 p0).bind (fun u12 => (fX8_isPosition M0 p0 p2).bind (fun r12 => if r12.1 = 0 then (some ((-1 : Int32), r12.2)) else (zlt (p2 - (1 : Int32)) (fun x3_23 => fX8_previous_24L  zFU r12.2 p0 p1 x3_23))))))
def fX8_segmentCount_41 (k14 : Mem → Nat → Int32 → Int32 → Int32 → Option (Int32 × Mem)) (M : Mem) (h0 : Nat) (x1 : Int32) (x2 : Int32) (x3 : Int32) : Option (Int32 × Mem) :=
  zlt (x3 + (1 : Int32)) (fun x3_41 => k14 M h0 x1 x2 x3_41)
def fX8_segmentCount_14  (k14 : Mem → Nat → Int32 → Int32 → Int32 → Option (Int32 × Mem)) (M : Mem) (h0 : Nat) (x1 : Int32) (x2 : Int32) (x3 : Int32) : Option (Int32 × Mem) :=
  (zgR M 8 0 h0).bind (fun v16 => (zgR M 7 0 v16).bind (fun v19 => (zgI M 4 1 v19).bind (fun v22 => if v22 < x3 then (some (x2, M)) else ((zck M 8 h0).bind (fun u31 => (fX8_stateAt M h0 x1 x3).bind (fun r31 => if r31.1 = (1 : Int32) then (zlt (x2 + (1 : Int32)) (fun x2_38 => fX8_segmentCount_41 k14 r31.2 h0 x1 x2_38 x3)) else (fX8_segmentCount_41 k14 r31.2 h0 x1 x2 x3)))))))
def fX8_segmentCount_14L  (n : Nat) : Mem → Nat → Int32 → Int32 → Int32 → Option (Int32 × Mem) := zit (fun _ _ _ _ _ => none) (fX8_segmentCount_14 ) n
def fX8_segmentCount (M0 : Mem) (p0 : Nat) (p1 : Int32) : Option (Int32 × Mem) :=
  (fX8_isKind p1).bind (fun v1 => if v1 = 0 then (some ((-2 : Int32), M0)) else (fX8_segmentCount_14L  zFU M0 p0 p1 (0 : Int32) (1 : Int32)))
def fX8_segment_55 (k19 : Mem → Nat → Int32 → Int32 → Int32 → Option (Int32 × Mem)) (M : Mem) (h0 : Nat) (x1 : Int32) (x3 : Int32) (x4 : Int32) : Option (Int32 × Mem) :=
  zlt (x4 + (1 : Int32)) (fun x4_55 => k19 M h0 x1 x3 x4_55)
def fX8_segment_19  (k19 : Mem → Nat → Int32 → Int32 → Int32 → Option (Int32 × Mem)) (M : Mem) (h0 : Nat) (x1 : Int32) (x3 : Int32) (x4 : Int32) : Option (Int32 × Mem) :=
  (zgR M 8 0 h0).bind (fun v22 => (zgR M 7 0 v22).bind (fun v25 => (zgI M 4 1 v25).bind (fun v28 => if v28 ≤ x4 then (some ((-5 : Int32), M)) else ((zck M 8 h0).bind (fun u38 => (fX8_stateAt M h0 x1 x4).bind (fun r38 => if r38.1 = (1 : Int32) then (if x3 = 0 then (some (x4, r38.2)) else (zlt (x3 + (-1 : Int32)) (fun x3_52 => fX8_segment_55 k19 r38.2 h0 x1 x3_52 x4))) else (fX8_segment_55 k19 r38.2 h0 x1 x3 x4)))))))
def fX8_segment_19L  (n : Nat) : Mem → Nat → Int32 → Int32 → Int32 → Option (Int32 × Mem) := zit (fun _ _ _ _ _ => none) (fX8_segment_19 ) n
def fX8_segment (M0 : Mem) (p0 : Nat) (p1 : Int32) (p2 : Int32) : Option (Int32 × Mem) :=
  (fX8_isKind p1).bind (fun v1 => if v1 = 0 then (some ((-2 : Int32), M0)) else (if 0 ≤ p2 then (fX8_segment_19L  zFU M0 p0 p1 p2 (0 : Int32)) else (some ((-2 : Int32), M0))))
def fX8_longest_69 (k21 : Mem → Nat → Int32 → Int32 → Int32 → Int32 → Int32 → Option (Int32 × Mem)) (M : Mem) (h0 : Nat) (x1 : Int32) (x2 : Int32) (x3 : Int32) (x4 : Int32) (x5 : Int32) : Option (Int32 × Mem) :=
  zlt (x5 + (1 : Int32)) (fun x5_69 => k21 M h0 x1 x2 x3 x4 x5_69)
def fX8_longest_65 (k21 : Mem → Nat → Int32 → Int32 → Int32 → Int32 → Int32 → Option (Int32 × Mem)) (M : Mem) (h0 : Nat) (x1 : Int32) (x2 : Int32) (x3 : Int32) (x5 : Int32) : Option (Int32 × Mem) :=
  fX8_longest_69 k21 M h0 x1 x2 x3 x5 x5
def fX8_longest_21  (k21 : Mem → Nat → Int32 → Int32 → Int32 → Int32 → Int32 → Option (Int32 × Mem)) (M : Mem) (h0 : Nat) (x1 : Int32) (x2 : Int32) (x3 : Int32) (x4 : Int32) (x5 : Int32) : Option (Int32 × Mem) :=
  (zgR M 8 0 h0).bind (fun v24 => (zgR M 7 0 v24).bind (fun v27 => (zgI M 4 1 v27).bind (fun v30 => if v30 < x5 then (some (x2, M)) else ((zck M 8 h0).bind (fun u40 => (fX8_stateAt M h0 x1 x5).bind (fun r40 => if r40.1 = (1 : Int32) then (if (x5 - x4) ≤ x3 then (fX8_longest_65 k21 r40.2 h0 x1 x2 x3 x5) else (zlt (x5 - x4) (fun x3_64 => fX8_longest_65 k21 r40.2 h0 x1 x4 x3_64 x5))) else (fX8_longest_69 k21 r40.2 h0 x1 x2 x3 x4 x5)))))))
def fX8_longest_21L  (n : Nat) : Mem → Nat → Int32 → Int32 → Int32 → Int32 → Int32 → Option (Int32 × Mem) := zit (fun _ _ _ _ _ _ _ => none) (fX8_longest_21 ) n
def fX8_longest (M0 : Mem) (p0 : Nat) (p1 : Int32) : Option (Int32 × Mem) :=
  (fX8_isKind p1).bind (fun v1 => if v1 = 0 then (some ((-2 : Int32), M0)) else (fX8_longest_21L  zFU M0 p0 p1 (-5 : Int32) (0 : Int32) (0 : Int32) (1 : Int32)))
def fX8_segmentsWith_78 (k25 : Mem → Nat → Int32 → Int32 → Int32 → Int32 → Int32 → Option (Int32 × Mem)) (M : Mem) (h0 : Nat) (x1 : Int32) (x2 : Int32) (x3 : Int32) (x4 : Int32) (x5 : Int32) : Option (Int32 × Mem) :=
  zlt (x5 + (1 : Int32)) (fun x5_78 => k25 M h0 x1 x2 x3 x4 x5_78)
def fX8_segmentsWith_54 (k25 : Mem → Nat → Int32 → Int32 → Int32 → Int32 → Int32 → Option (Int32 × Mem)) (M : Mem) (h0 : Nat) (x1 : Int32) (x2 : Int32) (x3 : Int32) (x4 : Int32) (x5 : Int32) : Option (Int32 × Mem) :=
  if x4 = 0 then ((zgR M 8 0 h0).bind (fun v60 => (zck M 7 v60).bind (fun u65 => (fX7_classAt M v60 x5).bind (fun r65 => if r65.1 = x2 then (zlt (x3 + (1 : Int32)) (fun x3_75 => fX8_segmentsWith_78 k25 r65.2 h0 x1 x2 x3_75 (1 : Int32) x5)) else (fX8_segmentsWith_78 k25 r65.2 h0 x1 x2 x3 x4 x5))))) else (fX8_segmentsWith_78 k25 M h0 x1 x2 x3 x4 x5)
def fX8_segmentsWith_25  (k25 : Mem → Nat → Int32 → Int32 → Int32 → Int32 → Int32 → Option (Int32 × Mem)) (M : Mem) (h0 : Nat) (x1 : Int32) (x2 : Int32) (x3 : Int32) (x4 : Int32) (x5 : Int32) : Option (Int32 × Mem) :=
  (zgR M 8 0 h0).bind (fun v28 => (zgR M 7 0 v28).bind (fun v31 => (zgI M 4 1 v31).bind (fun v34 => if v34 ≤ x5 then (some (x3, M)) else ((zck M 8 h0).bind (fun u44 => (fX8_stateAt M h0 x1 x5).bind (fun r44 => if r44.1 = (1 : Int32) then (fX8_segmentsWith_54 k25 r44.2 h0 x1 x2 x3 (0 : Int32) x5) else (fX8_segmentsWith_54 k25 r44.2 h0 x1 x2 x3 x4 x5)))))))
def fX8_segmentsWith_25L  (n : Nat) : Mem → Nat → Int32 → Int32 → Int32 → Int32 → Int32 → Option (Int32 × Mem) := zit (fun _ _ _ _ _ _ _ => none) (fX8_segmentsWith_25 ) n
def fX8_segmentsWith (M0 : Mem) (p0 : Nat) (p1 : Int32) (p2 : Int32) : Option (Int32 × Mem) :=
  (fX8_isKind p1).bind (fun v1 => if v1 = 0 then (some ((-2 : Int32), M0)) else ((fX8_isClass p2).bind (fun v8 => if v8 = 0 then (some ((-2 : Int32), M0)) else (fX8_segmentsWith_25L  zFU M0 p0 p1 p2 (0 : Int32) (0 : Int32) (0 : Int32)))))
def fX8_looksAt (M0 : Mem) (p0 : Nat) (p1 : Int32) (p2 : Int32) : Option (Int32 × Mem) :=
  (fX8_isKind p1).bind (fun v1 => if v1 = 0 then (some ((-2 : Int32), M0)) else ((zck M0 8 p0).bind (fun u12 => (fX8_isPositionOfCharacter M0 p0 p2).bind (fun r12 => if r12.1 = 0 then (some ((-1 : Int32), r12.2)) else ((zgR r12.2 8 2 p0).bind (fun v21 => (zaR r12.2 14 v21 p1).bind (fun v25 => (zgR r12.2 8 0 p0).bind (fun v27 => (zck r12.2 2 v25).bind (fun u31 => (fX2_measure r12.2 v25 v27 p2).bind (fun M31 => (zgR M31 8 2 p0).bind (fun v35 => (zaR M31 14 v35 p1).bind (fun v39 => (zgI M31 2 4 v39).bind (fun v40 => some (v40, M31))))))))))))))
def fX8_work (M0 : Mem) (p0 : Nat) (p1 : Int32) : Option (Int32 × Mem) :=
  (fX8_isKind p1).bind (fun v1 => if v1 = 0 then (some ((-2 : Int32), M0)) else ((zgR M0 8 2 p0).bind (fun v8 => (zaR M0 14 v8 p1).bind (fun v12 => (zgI M0 2 2 v12).bind (fun v13 => some (v13, M0))))))
def fX9_in (p0 : Int32) (p1 : Int32) (p2 : Int32) : Option Int32 :=
  if p0 < p1 then (zrp .boolean (0 : Int32)) else (if p2 < p0 then (zrp .boolean (0 : Int32)) else (zrp .boolean (1 : Int32)))
def fX9_firstClass (p0 : Int32) : Option Int32 :=
  (fX9_in p0 (97 : Int32) (122 : Int32)).bind (fun v5 => if v5 = 0 then ((fX9_in p0 (65 : Int32) (90 : Int32)).bind (fun v16 => if v16 = 0 then ((fX9_in p0 (48 : Int32) (57 : Int32)).bind (fun v29 => if v29 = 0 then (if p0 = (32 : Int32) then (some (2 : Int32)) else (if p0 = (33 : Int32) then (some (5 : Int32)) else (if p0 = (34 : Int32) then (some (9 : Int32)) else (if p0 = (39 : Int32) then (some (6 : Int32)) else (if p0 = (40 : Int32) then (some (8 : Int32)) else (if p0 = (41 : Int32) then (some (9 : Int32)) else (if p0 = (44 : Int32) then (some (4 : Int32)) else (if p0 = (45 : Int32) then (some (7 : Int32)) else (if p0 = (46 : Int32) then (some (3 : Int32)) else (if p0 = (58 : Int32) then (some (4 : Int32)) else (if p0 = (59 : Int32) then (some (4 : Int32)) else (if p0 = (63 : Int32) then (some (5 : Int32)) else (if p0 = (91 : Int32) then (some (8 : Int32)) else (if p0 = (93 : Int32) then (some (9 : Int32)) else (if p0 = (94 : Int32) then (some (10 : Int32)) else (if p0 = (96 : Int32) then (some (10 : Int32)) else (if p0 = (126 : Int32) then (some (10 : Int32)) else (some (11 : Int32))))))))))))))))))) else (some (1 : Int32)))) else (some (0 : Int32)))) else (some (0 : Int32)))
def fX9_init_347 (M0 : Mem)  (k347 : Mem → Nat → Int32 → Option Mem) (M : Mem) (h0 : Nat) (x1 : Int32) : Option Mem :=
  if (3 : Int32) ≤ x1 then (some M) else ((zgR M 9 33 h0).bind (fun v353 => (zsI M v353 x1 (1 : Int32)).bind (fun M358 => zlt (x1 + (1 : Int32)) (fun x1_359 => k347 M358 h0 x1_359))))
def fX9_init_347L (M0 : Mem)  (n : Nat) : Mem → Nat → Int32 → Option Mem := zit (fun _ _ _ => none) (fX9_init_347 M0 ) n
def fX9_init_323 (M0 : Mem)  (k323 : Mem → Nat → Int32 → Option Mem) (M : Mem) (h0 : Nat) (x1 : Int32) : Option Mem :=
  if (126 : Int32) < x1 then (fX9_init_347L M0  zFU M h0 (0 : Int32)) else ((zgR M 9 0 h0).bind (fun v330 => (fX9_firstClass x1).bind (fun v335 => (zsI M v330 x1 v335).bind (fun M338 => zlt (x1 + (1 : Int32)) (fun x1_339 => k323 M338 h0 x1_339)))))
def fX9_init_323L (M0 : Mem)  (n : Nat) : Mem → Nat → Int32 → Option Mem := zit (fun _ _ _ => none) (fX9_init_323 M0 ) n
def fX9_init (M0 : Mem) (p0 : Nat) : Option Mem :=
  (zna M0 11 (127 : Int32) (M0.1 + 40)).bind (fun M7 => (zpR M7 9 0 p0 M0.1).bind (fun M9 => (zna M9 10 (24 : Int32) (M0.1 + 40)).bind (fun M15 => (zpR M15 9 2 p0 M9.1).bind (fun M17 => (zna M17 12 (5 : Int32) (M0.1 + 40)).bind (fun M22 => (zpR M22 9 3 p0 M17.1).bind (fun M24 => (zna M24 11 (5 : Int32) (M0.1 + 40)).bind (fun M29 => (zpR M29 9 4 p0 M24.1).bind (fun M31 => (zna M31 11 (5 : Int32) (M0.1 + 40)).bind (fun M36 => (zpR M36 9 5 p0 M31.1).bind (fun M38 => (zna M38 12 (5 : Int32) (M0.1 + 40)).bind (fun M43 => (zpR M43 9 6 p0 M38.1).bind (fun M45 => (zna M45 11 (5 : Int32) (M0.1 + 40)).bind (fun M50 => (zpR M50 9 7 p0 M45.1).bind (fun M52 => (zna M52 11 (5 : Int32) (M0.1 + 40)).bind (fun M57 => (zpR M57 9 8 p0 M52.1).bind (fun M59 => (zna M59 11 (5 : Int32) (M0.1 + 40)).bind (fun M64 => (zpR M64 9 9 p0 M59.1).bind (fun M66 => (zna M66 11 (24 : Int32) (M0.1 + 40)).bind (fun M72 => (zpR M72 9 14 p0 M66.1).bind (fun M74 => (zna M74 11 (24 : Int32) (M0.1 + 40)).bind (fun M80 => (zpR M80 9 15 p0 M74.1).bind (fun M82 => (zna M82 11 (15 : Int32) (M0.1 + 40)).bind (fun M88 => (zpR M88 9 20 p0 M82.1).bind (fun M90 => (zna M90 10 (360 : Int32) (M0.1 + 40)).bind (fun M97 => (zpR M97 9 21 p0 M90.1).bind (fun M99 => (zna M99 11 (360 : Int32) (M0.1 + 40)).bind (fun M106 => (zpR M106 9 22 p0 M99.1).bind (fun M108 => (zna M108 11 (360 : Int32) (M0.1 + 40)).bind (fun M115 => (zpR M115 9 23 p0 M108.1).bind (fun M117 => (zna M117 12 (15 : Int32) (M0.1 + 40)).bind (fun M123 => (zpR M123 9 24 p0 M117.1).bind (fun M125 => (zna M125 12 (15 : Int32) (M0.1 + 40)).bind (fun M131 => (zpR M131 9 25 p0 M125.1).bind (fun M133 => (zna M133 11 (15 : Int32) (M0.1 + 40)).bind (fun M139 => (zpR M139 9 26 p0 M133.1).bind (fun M141 => (zna M141 11 (15 : Int32) (M0.1 + 40)).bind (fun M147 => (zpR M147 9 27 p0 M141.1).bind (fun M149 => (zna M149 12 (15 : Int32) (M0.1 + 40)).bind (fun M155 => (zpR M155 9 28 p0 M149.1).bind (fun M157 => (zna M157 11 (15 : Int32) (M0.1 + 40)).bind (fun M163 => (zpR M163 9 29 p0 M157.1).bind (fun M165 => (zna M165 11 (15 : Int32) (M0.1 + 40)).bind (fun M171 => (zpR M171 9 30 p0 M165.1).bind (fun M173 => (zna M173 10 (100 : Int32) (M0.1 + 40)).bind (fun M179 => (zpR M179 9 32 p0 M173.1).bind (fun M181 => (zna M181 11 (3 : Int32) (M0.1 + 40)).bind (fun M186 => (zpR M186 9 33 p0 M181.1).bind (fun M188 => (zna M188 11 (303 : Int32) (M0.1 + 40)).bind (fun M195 => (zpR M195 9 34 p0 M188.1).bind (fun M197 => (zna M197 11 (3 : Int32) (M0.1 + 40)).bind (fun M202 => (zpR M202 9 35 p0 M197.1).bind (fun M204 => (zna M204 11 (3 : Int32) (M0.1 + 40)).bind (fun M209 => (zpR M209 9 36 p0 M204.1).bind (fun M211 => (zna M211 11 (101 : Int32) (M0.1 + 40)).bind (fun M217 => (zpR M217 9 37 p0 M211.1).bind (fun M219 => (zna M219 10 (100 : Int32) (M0.1 + 40)).bind (fun M225 => (zpR M225 9 38 p0 M219.1).bind (fun M227 => (zna M227 12 (30 : Int32) (M0.1 + 40)).bind (fun M233 => (zpR M233 9 40 p0 M227.1).bind (fun M235 => (zna M235 11 (30 : Int32) (M0.1 + 40)).bind (fun M241 => (zpR M241 9 41 p0 M235.1).bind (fun M243 => (zna M243 11 (30 : Int32) (M0.1 + 40)).bind (fun M249 => (zpR M249 9 42 p0 M243.1).bind (fun M251 => (zna M251 10 (3000 : Int32) (M0.1 + 40)).bind (fun M258 => (zpR M258 9 43 p0 M251.1).bind (fun M260 => (zna M260 12 (30 : Int32) (M0.1 + 40)).bind (fun M266 => (zpR M266 9 45 p0 M260.1).bind (fun M268 => (zna M268 11 (30 : Int32) (M0.1 + 40)).bind (fun M274 => (zpR M274 9 46 p0 M268.1).bind (fun M276 => (zna M276 11 (30 : Int32) (M0.1 + 40)).bind (fun M282 => (zpR M282 9 47 p0 M276.1).bind (fun M284 => (zna M284 10 (3000 : Int32) (M0.1 + 40)).bind (fun M291 => (zpR M291 9 48 p0 M284.1).bind (fun M293 => (zna M293 11 (10 : Int32) (M0.1 + 40)).bind (fun M299 => (zpR M299 9 50 p0 M293.1).bind (fun M301 => (zna M301 10 (80 : Int32) (M0.1 + 40)).bind (fun M307 => (zpR M307 9 51 p0 M301.1).bind (fun M309 => (zna M309 11 (101 : Int32) (M0.1 + 40)).bind (fun M315 => (zpR M315 9 53 p0 M309.1).bind (fun M317 => fX9_init_323L M0  zFU M317 p0 (32 : Int32)))))))))))))))))))))))))))))))))))))))))))))))))))))))))))))))))))))))))))))))))
def fX9_append (M0 : Mem) (p0 : Nat) (p1 : Int32) (p2 : Int32) : Option Mem :=
  (zgR M0 9 34 p0).bind (fun v1 => (zgR M0 9 33 p0).bind (fun v9 => (zaI M0 11 v9 p1).bind (fun v13 => (zsI M0 v1 (((101 : Int32) * p1) + v13) p2).bind (fun M16 => (zgR M16 9 33 p0).bind (fun v18 => (zaI M16 11 v18 p1).bind (fun v23 => (zsI M16 v18 p1 (v23 + (1 : Int32))).bind (fun M26 => some M26)))))))
def fX9_matching_78 (k19 : Mem → Nat → Int32 → Int32 → Int32 → Int32 → Int32 → Option (Int32 × Mem)) (M : Mem) (h0 : Nat) (x1 : Int32) (x2 : Int32) (x5 : Int32) (x6 : Int32) (y0 : Int32) (y1 : Int32) : Option (Int32 × Mem) :=
  zlt (y0 ||| y1) (fun x4_79 => zlt (x6 + (1 : Int32)) (fun x6_81 => k19 M h0 x1 x2 x4_79 x5 x6_81))
def fX9_matching_70 (k19 : Mem → Nat → Int32 → Int32 → Int32 → Int32 → Int32 → Option (Int32 × Mem)) (M : Mem) (h0 : Nat) (x1 : Int32) (x2 : Int32) (x5 : Int32) (x6 : Int32) (y0 : Int32) : Option (Int32 × Mem) :=
  fX9_matching_78 k19 M h0 x1 x2 x5 x6 y0 ((1 : Int32) <<< (x6 &&& 31))
def fX9_matching_77 (k19 : Mem → Nat → Int32 → Int32 → Int32 → Int32 → Int32 → Option (Int32 × Mem)) (M : Mem) (h0 : Nat) (x1 : Int32) (x2 : Int32) (x5 : Int32) (x6 : Int32) (y0 : Int32) : Option (Int32 × Mem) :=
  fX9_matching_78 k19 M h0 x1 x2 x5 x6 y0 (0 : Int32)
def fX9_matching_19  (k19 : Mem → Nat → Int32 → Int32 → Int32 → Int32 → Int32 → Option (Int32 × Mem)) (M : Mem) (h0 : Nat) (x1 : Int32) (x2 : Int32) (x4 : Int32) (x5 : Int32) (x6 : Int32) : Option (Int32 × Mem) :=
  (zgR M 9 20 h0).bind (fun v22 => (zaI M 11 v22 x1).bind (fun v26 => if v26 ≤ x6 then (some (x4, M)) else ((zgR M 9 22 h0).bind (fun v31 => (zaI M 11 v31 (((24 : Int32) * x1) + x6)).bind (fun v41 => if ((x2 >>> (x6 &&& 31)) &&& (1 : Int32)) = (1 : Int32) then (if v41 = (12 : Int32) then (fX9_matching_70 k19 M h0 x1 x2 x5 x6 x4) else (if v41 = x5 then (fX9_matching_70 k19 M h0 x1 x2 x5 x6 x4) else (fX9_matching_77 k19 M h0 x1 x2 x5 x6 x4))) else (fX9_matching_77 k19 M h0 x1 x2 x5 x6 x4))))))
def fX9_matching_19L  (n : Nat) : Mem → Nat → Int32 → Int32 → Int32 → Int32 → Int32 → Option (Int32 × Mem) := zit (fun _ _ _ _ _ _ _ => none) (fX9_matching_19 ) n
def fX9_matching (M0 : Mem) (p0 : Nat) (p1 : Int32) (p2 : Int32) (p3 : Int32) : Option (Int32 × Mem) :=
  (zgR M0 9 0 p0).bind (fun v4 => (zgR M0 9 32 p0).bind (fun v8 => (zaI M0 10 v8 p3).bind (fun v12 => (zaI M0 11 v4 v12).bind (fun v13 => fX9_matching_19L  zFU M0 p0 p1 p2 (0 : Int32) v13 (0 : Int32)))))
def fX9_behind_43 (k5 : Mem → Nat → Int32 → Int32 → Int32 → Int32 → Option (Int32 × Mem)) (M : Mem) (h0 : Nat) (x1 : Int32) (x2 : Int32) (x4 : Int32) (y0 : Int32) (y1 : Int32) : Option (Int32 × Mem) :=
  zlt (y0 ||| y1) (fun x3_44 => zlt (x4 + (1 : Int32)) (fun x4_45 => k5 M h0 x1 x2 x3_44 x4_45))
def fX9_behind_5  (k5 : Mem → Nat → Int32 → Int32 → Int32 → Int32 → Option (Int32 × Mem)) (M : Mem) (h0 : Nat) (x1 : Int32) (x2 : Int32) (x3 : Int32) (x4 : Int32) : Option (Int32 × Mem) :=
  (zgR M 9 20 h0).bind (fun v8 => (zaI M 11 v8 x1).bind (fun v12 => if v12 ≤ x4 then (some (x3, M)) else (if ((x2 >>> (x4 &&& 31)) &&& (1 : Int32)) = (1 : Int32) then ((zgR M 9 23 h0).bind (fun v28 => (zaI M 11 v28 (((24 : Int32) * x1) + x4)).bind (fun v38 => fX9_behind_43 k5 M h0 x1 x2 x4 x3 v38))) else (fX9_behind_43 k5 M h0 x1 x2 x4 x3 (0 : Int32)))))
def fX9_behind_5L  (n : Nat) : Mem → Nat → Int32 → Int32 → Int32 → Int32 → Option (Int32 × Mem) := zit (fun _ _ _ _ _ _ => none) (fX9_behind_5 ) n
def fX9_behind (M0 : Mem) (p0 : Nat) (p1 : Int32) (p2 : Int32) : Option (Int32 × Mem) :=
  fX9_behind_5L  zFU M0 p0 p1 p2 (0 : Int32) (0 : Int32)
def fX9_matchesAhead_64 (k18 : Mem → Nat → Int32 → Int32 → Int32 → Int32 → Option (Int32 × Mem)) (M : Mem) (h0 : Nat) (x1 : Int32) (x5 : Int32) (x6 : Int32) (y0 : Int32) : Option (Int32 × Mem) :=
  (zck M 9 h0).bind (fun u69 => (fX9_behind M h0 x1 x6).bind (fun r69 => zlt (x5 + (1 : Int32)) (fun x5_74 => k18 r69.2 h0 x1 y0 r69.1 x5_74)))
def fX9_matchesAhead_18  (k18 : Mem → Nat → Int32 → Int32 → Int32 → Int32 → Option (Int32 × Mem)) (M : Mem) (h0 : Nat) (x1 : Int32) (x3 : Int32) (x4 : Int32) (x5 : Int32) : Option (Int32 × Mem) :=
  (zgI M 9 31 h0).bind (fun v21 => if v21 ≤ x5 then (zrt .boolean x3 M) else (if x4 = 0 then (zrt .boolean x3 M) else (if x3 = 0 then ((zck M 9 h0).bind (fun u42 => (fX9_matching M h0 x1 x4 x5).bind (fun r42 => (zgR r42.2 9 30 h0).bind (fun v50 => (zaI r42.2 11 v50 x1).bind (fun v54 => if (r42.1 &&& v54) = 0 then (fX9_matchesAhead_64 k18 r42.2 h0 x1 x5 r42.1 (0 : Int32)) else (fX9_matchesAhead_64 k18 r42.2 h0 x1 x5 r42.1 (1 : Int32))))))) else (zrt .boolean x3 M))))
def fX9_matchesAhead_18L  (n : Nat) : Mem → Nat → Int32 → Int32 → Int32 → Int32 → Option (Int32 × Mem) := zit (fun _ _ _ _ _ _ => none) (fX9_matchesAhead_18 ) n
def fX9_matchesAhead (M0 : Mem) (p0 : Nat) (p1 : Int32) (p2 : Int32) : Option (Int32 × Mem) :=
  (zgR M0 9 28 p0).bind (fun v1 => (zaI M0 12 v1 p1).bind (fun v5 => (zgR M0 9 29 p0).bind (fun v8 => (zaI M0 11 v8 p1).bind (fun v12 => fX9_matchesAhead_18L  zFU M0 p0 p1 v5 v12 p2))))
def fX9_lengthOf_72 (k13 : Mem → Nat → Int32 → Int32 → Int32 → Int32 → Int32 → Option (Int32 × Mem)) (M : Mem) (h0 : Nat) (x1 : Int32) (x2 : Int32) (x5 : Int32) (x6 : Int32) (y0 : Int32) : Option (Int32 × Mem) :=
  (zck M 9 h0).bind (fun u77 => (fX9_behind M h0 x1 x6).bind (fun r77 => zlt (x5 + (1 : Int32)) (fun x5_82 => k13 r77.2 h0 x1 x2 y0 r77.1 x5_82)))
def fX9_lengthOf_71 (k13 : Mem → Nat → Int32 → Int32 → Int32 → Int32 → Int32 → Option (Int32 × Mem)) (M : Mem) (h0 : Nat) (x1 : Int32) (x2 : Int32) (x3 : Int32) (x5 : Int32) (x6 : Int32) : Option (Int32 × Mem) :=
  fX9_lengthOf_72 k13 M h0 x1 x2 x5 x6 x3
def fX9_lengthOf_13  (k13 : Mem → Nat → Int32 → Int32 → Int32 → Int32 → Int32 → Option (Int32 × Mem)) (M : Mem) (h0 : Nat) (x1 : Int32) (x2 : Int32) (x3 : Int32) (x4 : Int32) (x5 : Int32) : Option (Int32 × Mem) :=
  (zgI M 9 31 h0).bind (fun v16 => if v16 ≤ x5 then (some (x3, M)) else (if x4 = 0 then (some (x3, M)) else ((zck M 9 h0).bind (fun u33 => (fX9_matching M h0 x1 x4 x5).bind (fun r33 => (zgR r33.2 9 27 h0).bind (fun v41 => (zaI r33.2 11 v41 x1).bind (fun v45 => if (r33.1 &&& v45) = 0 then (fX9_lengthOf_71 k13 r33.2 h0 x1 x2 x3 x5 r33.1) else ((zck r33.2 9 h0).bind (fun u56 => (fX9_matchesAhead r33.2 h0 x1 (x5 + (1 : Int32))).bind (fun r56 => if r56.1 = 0 then (fX9_lengthOf_71 k13 r56.2 h0 x1 x2 x3 x5 r33.1) else (fX9_lengthOf_72 k13 r56.2 h0 x1 x2 x5 r33.1 ((x5 + (1 : Int32)) - x2))))))))))))
def fX9_lengthOf_13L  (n : Nat) : Mem → Nat → Int32 → Int32 → Int32 → Int32 → Int32 → Option (Int32 × Mem) := zit (fun _ _ _ _ _ _ _ => none) (fX9_lengthOf_13 ) n
def fX9_lengthOf (M0 : Mem) (p0 : Nat) (p1 : Int32) (p2 : Int32) : Option (Int32 × Mem) :=
  (zgR M0 9 26 p0).bind (fun v3 => (zaI M0 11 v3 p1).bind (fun v7 => fX9_lengthOf_13L  zFU M0 p0 p1 p2 (0 : Int32) v7 p2))
def fX9_segmentAt_52 (k7 : Mem → Nat → Int32 → Int32 → Int32 → Int32 → Option (Int32 × Mem)) (M : Mem) (h0 : Nat) (x1 : Int32) (x2 : Int32) (x4 : Int32) (y0 : Int32) : Option (Int32 × Mem) :=
  zlt (x4 + (1 : Int32)) (fun x4_53 => k7 M h0 x1 x2 y0 x4_53)
def fX9_segmentAt_38 (k7 : Mem → Nat → Int32 → Int32 → Int32 → Int32 → Option (Int32 × Mem)) (M : Mem) (h0 : Nat) (x1 : Int32) (x2 : Int32) (x3 : Int32) (x4 : Int32) (y0 : Int32) : Option (Int32 × Mem) :=
  if y0 ≤ x3 then (fX9_segmentAt_52 k7 M h0 x1 x2 x4 x3) else (fX9_segmentAt_52 k7 M h0 x1 x2 x4 y0)
def fX9_segmentAt_7  (k7 : Mem → Nat → Int32 → Int32 → Int32 → Int32 → Option (Int32 × Mem)) (M : Mem) (h0 : Nat) (x1 : Int32) (x2 : Int32) (x3 : Int32) (x4 : Int32) : Option (Int32 × Mem) :=
  if (((5 : Int32) * x1) + (5 : Int32)) ≤ x4 then (some (x3, M)) else ((zgR M 9 20 h0).bind (fun v18 => (zaI M 11 v18 x4).bind (fun v23 => if v23 ≤ 0 then (fX9_segmentAt_38 k7 M h0 x1 x2 x3 x4 (0 : Int32)) else ((zck M 9 h0).bind (fun u31 => (fX9_lengthOf M h0 x4 x2).bind (fun r31 => fX9_segmentAt_38 k7 r31.2 h0 x1 x2 x3 x4 r31.1))))))
def fX9_segmentAt_7L  (n : Nat) : Mem → Nat → Int32 → Int32 → Int32 → Int32 → Option (Int32 × Mem) := zit (fun _ _ _ _ _ _ => none) (fX9_segmentAt_7 ) n
def fX9_segmentAt (M0 : Mem) (p0 : Nat) (p1 : Int32) (p2 : Int32) : Option (Int32 × Mem) :=
  zlt ((5 : Int32) * p1) (fun x4_5 => fX9_segmentAt_7L  zFU M0 p0 p1 p2 (1 : Int32) x4_5)
def fX9_analyse_22  (k22 : Mem → Nat → Int32 → Int32 → Option Mem) (M : Mem) (h0 : Nat) (x1 : Int32) (x2 : Int32) : Option Mem :=
  (zgI M 9 31 h0).bind (fun v24 => if v24 ≤ x2 then (some M) else ((zck M 9 h0).bind (fun u34 => (fX9_segmentAt M h0 x1 x2).bind (fun r34 => zlt (x2 + r34.1) (fun x2_38 => (zck r34.2 9 h0).bind (fun u42 => (fX9_append r34.2 h0 x1 x2_38).bind (fun M42 => (zgR M42 9 35 h0).bind (fun v46 => (zaI M42 11 v46 x1).bind (fun v51 => (zsI M42 v46 x1 (v51 + (1 : Int32))).bind (fun M54 => k22 M54 h0 x1 x2_38))))))))))
def fX9_analyse_22L  (n : Nat) : Mem → Nat → Int32 → Int32 → Option Mem := zit (fun _ _ _ _ => none) (fX9_analyse_22 ) n
def fX9_analyse (M0 : Mem) (p0 : Nat) (p1 : Int32) : Option Mem :=
  (zgR M0 9 33 p0).bind (fun v1 => (zsI M0 v1 p1 (0 : Int32)).bind (fun M6 => (zck M6 9 p0).bind (fun u10 => (fX9_append M6 p0 p1 (0 : Int32)).bind (fun M10 => (zgR M10 9 35 p0).bind (fun v14 => (zsI M10 v14 p1 (0 : Int32)).bind (fun M19 => fX9_analyse_22L  zFU M19 p0 p1 (0 : Int32)))))))
def fX9_setClass_41  (k41 : Mem → Nat → Int32 → Int32 → Int32 → Option (Int32 × Mem)) (M : Mem) (h0 : Nat) (x2 : Int32) (x3 : Int32) (x4 : Int32) : Option (Int32 × Mem) :=
  if (3 : Int32) ≤ x4 then (some (x3, M)) else (if x3 = x2 then (some (x3, M)) else ((zck M 9 h0).bind (fun u55 => (fX9_analyse M h0 x4).bind (fun M55 => zlt (x4 + (1 : Int32)) (fun x4_58 => k41 M55 h0 x2 x3 x4_58)))))
def fX9_setClass_41L  (n : Nat) : Mem → Nat → Int32 → Int32 → Int32 → Option (Int32 × Mem) := zit (fun _ _ _ _ _ => none) (fX9_setClass_41 ) n
def fX9_setClass (M0 : Mem) (p0 : Nat) (p1 : Int32) (p2 : Int32) : Option (Int32 × Mem) :=
  (fX9_in p1 (32 : Int32) (126 : Int32)).bind (fun v5 => if v5 = 0 then (some ((-2 : Int32), M0)) else ((fX9_in p2 (0 : Int32) (11 : Int32)).bind (fun v15 => if v15 = 0 then (some ((-2 : Int32), M0)) else ((zgR M0 9 0 p0).bind (fun v25 => (zaI M0 11 v25 p1).bind (fun v29 => (zgR M0 9 0 p0).bind (fun v32 => (zsI M0 v32 p1 p2).bind (fun M37 => fX9_setClass_41L  zFU M37 p0 p2 v29 (0 : Int32)))))))))
def fX9_classOf (M0 : Mem) (p0 : Nat) (p1 : Int32) : Option (Int32 × Mem) :=
  (fX9_in p1 (32 : Int32) (126 : Int32)).bind (fun v5 => if v5 = 0 then (some ((-2 : Int32), M0)) else ((zgR M0 9 0 p0).bind (fun v12 => (zaI M0 11 v12 p1).bind (fun v16 => some (v16, M0)))))
def fX9_type (M0 : Mem) (p0 : Nat) (p1 : Int32) : Option (Int32 × Mem) :=
  (zgI M0 9 1 p0).bind (fun v1 => if v1 = (24 : Int32) then (some ((-3 : Int32), M0)) else ((zgR M0 9 2 p0).bind (fun v13 => (zgI M0 9 1 p0).bind (fun v17 => (zsC M0 v13 v17 p1).bind (fun M21 => (zgI M21 9 1 p0).bind (fun v24 => (zpI M21 9 1 p0 (v24 + (1 : Int32))).bind (fun M29 => (zgI M29 9 1 p0).bind (fun v33 => some (v33, M29)))))))))
def fX9_clearPattern (M0 : Mem) (p0 : Nat) : Option (Int32 × Mem) :=
  (zgI M0 9 1 p0).bind (fun v1 => (zpI M0 9 1 p0 (0 : Int32)).bind (fun M7 => some (v1, M7)))
def fX9_openSequence (M0 : Mem) (p0 : Nat) : Option Mem :=
  (zgR M0 9 6 p0).bind (fun v1 => (zgI M0 9 10 p0).bind (fun v5 => (zsZ M0 v1 v5 (1 : Int32)).bind (fun M9 => (zgR M9 9 7 p0).bind (fun v11 => (zgI M9 9 10 p0).bind (fun v15 => (zsI M9 v11 v15 (0 : Int32)).bind (fun M19 => (zgR M19 9 8 p0).bind (fun v21 => (zgI M19 9 10 p0).bind (fun v25 => (zsI M19 v21 v25 (0 : Int32)).bind (fun M29 => (zgR M29 9 9 p0).bind (fun v31 => (zgI M29 9 10 p0).bind (fun v35 => (zsI M29 v31 v35 (0 : Int32)).bind (fun M39 => some M39))))))))))))
def fX9_openAlternatives (M0 : Mem) (p0 : Nat) : Option Mem :=
  (zgR M0 9 3 p0).bind (fun v1 => (zgI M0 9 10 p0).bind (fun v5 => (zsZ M0 v1 v5 (0 : Int32)).bind (fun M9 => (zgR M9 9 4 p0).bind (fun v11 => (zgI M9 9 10 p0).bind (fun v15 => (zsI M9 v11 v15 (0 : Int32)).bind (fun M19 => (zgR M19 9 5 p0).bind (fun v21 => (zgI M19 9 10 p0).bind (fun v25 => (zsI M19 v21 v25 (0 : Int32)).bind (fun M29 => (zck M29 9 p0).bind (fun u31 => (fX9_openSequence M29 p0 ).bind (fun M31 => some M31)))))))))))
def fX9_closeSequence_37  (M : Mem) (h0 : Nat) (g0 : Nat) (y1 : Int32) (y2 : Int32) : Option Mem :=
  (zsZ M g0 y1 y2).bind (fun M37 => (zgR M37 9 4 h0).bind (fun v39 => (zgI M37 9 10 h0).bind (fun v43 => (zaI M37 11 v39 v43).bind (fun v47 => (zgR M37 9 7 h0).bind (fun v49 => (zgI M37 9 10 h0).bind (fun v53 => (zaI M37 11 v49 v53).bind (fun v56 => (zsI M37 v39 v43 (v47 ||| v56)).bind (fun M58 => (zgR M58 9 5 h0).bind (fun v60 => (zgI M58 9 10 h0).bind (fun v64 => (zaI M58 11 v60 v64).bind (fun v68 => (zgR M58 9 8 h0).bind (fun v70 => (zgI M58 9 10 h0).bind (fun v74 => (zaI M58 11 v70 v74).bind (fun v77 => (zsI M58 v60 v64 (v68 ||| v77)).bind (fun M79 => some M79)))))))))))))))
def fX9_closeSequence_32  (M : Mem) (h0 : Nat) (g0 : Nat) (y1 : Int32) : Option Mem :=
  fX9_closeSequence_37  M h0 g0 y1 (1 : Int32)
def fX9_closeSequence (M0 : Mem) (p0 : Nat) : Option Mem :=
  (zgR M0 9 3 p0).bind (fun v1 => (zgI M0 9 10 p0).bind (fun v5 => (zgR M0 9 3 p0).bind (fun v9 => (zgI M0 9 10 p0).bind (fun v13 => (zaI M0 12 v9 v13).bind (fun v16 => if v16 = 0 then ((zgR M0 9 6 p0).bind (fun v21 => (zgI M0 9 10 p0).bind (fun v25 => (zaI M0 12 v21 v25).bind (fun v28 => if v28 = 0 then (fX9_closeSequence_37  M0 p0 v1 v5 (0 : Int32)) else (fX9_closeSequence_32  M0 p0 v1 v5))))) else (fX9_closeSequence_32  M0 p0 v1 v5))))))
def fX9_follows_29 (k2 : Mem → Nat → Int32 → Int32 → Int32 → Option Mem) (M : Mem) (h0 : Nat) (x1 : Int32) (x2 : Int32) (x3 : Int32) (g0 : Nat) (y1 : Int32) (y2 : Int32) (y3 : Int32) : Option Mem :=
  (zsI M g0 y1 (y2 ||| y3)).bind (fun M30 => zlt (x3 + (1 : Int32)) (fun x3_31 => k2 M30 h0 x1 x2 x3_31))
def fX9_follows_2  (k2 : Mem → Nat → Int32 → Int32 → Int32 → Option Mem) (M : Mem) (h0 : Nat) (x1 : Int32) (x2 : Int32) (x3 : Int32) : Option Mem :=
  if (24 : Int32) ≤ x3 then (some M) else ((zgR M 9 15 h0).bind (fun v9 => (zaI M 11 v9 x3).bind (fun v14 => if ((x1 >>> (x3 &&& 31)) &&& (1 : Int32)) = (1 : Int32) then (fX9_follows_29 k2 M h0 x1 x2 x3 v9 x3 v14 x2) else (fX9_follows_29 k2 M h0 x1 x2 x3 v9 x3 v14 (0 : Int32)))))
def fX9_follows_2L  (n : Nat) : Mem → Nat → Int32 → Int32 → Int32 → Option Mem := zit (fun _ _ _ _ _ => none) (fX9_follows_2 ) n
def fX9_follows (M0 : Mem) (p0 : Nat) (p1 : Int32) (p2 : Int32) : Option Mem :=
  fX9_follows_2L  zFU M0 p0 p1 p2 (0 : Int32)
def fX9_addItem_115  (M : Mem) (h0 : Nat) (g0 : Nat) (y1 : Int32) (y2 : Int32) : Option Mem :=
  (zsZ M g0 y1 y2).bind (fun M115 => (zgR M115 9 9 h0).bind (fun v117 => (zgI M115 9 10 h0).bind (fun v121 => (zaI M115 11 v117 v121).bind (fun v125 => (zsI M115 v117 v121 (v125 + (1 : Int32))).bind (fun M128 => some M128)))))
def fX9_addItem_114  (M : Mem) (h0 : Nat) (g0 : Nat) (y1 : Int32) : Option Mem :=
  fX9_addItem_115  M h0 g0 y1 (0 : Int32)
def fX9_addItem_81  (M : Mem) (h0 : Nat) (g0 : Nat) (y1 : Int32) (y2 : Int32) (y3 : Int32) : Option Mem :=
  (zsI M g0 y1 (y2 ||| y3)).bind (fun M82 => (zgR M82 9 6 h0).bind (fun v84 => (zgI M82 9 10 h0).bind (fun v88 => (zgR M82 9 6 h0).bind (fun v92 => (zgI M82 9 10 h0).bind (fun v96 => (zaI M82 12 v92 v96).bind (fun v99 => if v99 = 0 then (fX9_addItem_114  M82 h0 v84 v88) else ((zgI M82 9 11 h0).bind (fun v104 => if v104 = 0 then (fX9_addItem_114  M82 h0 v84 v88) else (fX9_addItem_115  M82 h0 v84 v88 (1 : Int32))))))))))
def fX9_addItem_47  (M : Mem) (h0 : Nat) (g0 : Nat) (y1 : Int32) (y2 : Int32) (y3 : Int32) : Option Mem :=
  (zsI M g0 y1 (y2 ||| y3)).bind (fun M48 => (zgR M48 9 8 h0).bind (fun v50 => (zgI M48 9 10 h0).bind (fun v54 => (zgI M48 9 13 h0).bind (fun v58 => (zgI M48 9 11 h0).bind (fun v62 => if v62 = 0 then (fX9_addItem_81  M48 h0 v50 v54 v58 (0 : Int32)) else ((zgR M48 9 8 h0).bind (fun v69 => (zgI M48 9 10 h0).bind (fun v73 => (zaI M48 11 v69 v73).bind (fun v76 => fX9_addItem_81  M48 h0 v50 v54 v58 v76)))))))))
def fX9_addItem (M0 : Mem) (p0 : Nat) : Option Mem :=
  (zgR M0 9 8 p0).bind (fun v2 => (zgI M0 9 10 p0).bind (fun v6 => (zaI M0 11 v2 v6).bind (fun v9 => (zgI M0 9 12 p0).bind (fun v11 => (zck M0 9 p0).bind (fun u14 => (fX9_follows M0 p0 v9 v11).bind (fun M14 => (zgR M14 9 7 p0).bind (fun v18 => (zgI M14 9 10 p0).bind (fun v22 => (zaI M14 11 v18 v22).bind (fun v26 => (zgR M14 9 6 p0).bind (fun v28 => (zgI M14 9 10 p0).bind (fun v32 => (zaI M14 12 v28 v32).bind (fun v35 => if v35 = 0 then (fX9_addItem_47  M14 p0 v18 v22 v26 (0 : Int32)) else ((zgI M14 9 12 p0).bind (fun v40 => fX9_addItem_47  M14 p0 v18 v22 v26 v40))))))))))))))
def fX9_isRepeat_18   : Option Int32 :=
  zrp .boolean (1 : Int32)
def fX9_isRepeat (p0 : Int32) : Option Int32 :=
  if p0 = (42 : Int32) then (fX9_isRepeat_18  ) else (if p0 = (43 : Int32) then (fX9_isRepeat_18  ) else (if p0 = (63 : Int32) then (fX9_isRepeat_18  ) else (zrp .boolean (0 : Int32))))
def fX9_endItem_76  (M : Mem) (h0 : Nat) (x2 : Int32) : Option (Int32 × Mem) :=
  (zck M 9 h0).bind (fun u77 => (fX9_addItem M h0 ).bind (fun M77 => some (x2, M77)))
def fX9_endItem_69  (M : Mem) (h0 : Nat) (x1 : Int32) (g0 : Nat) (y1 : Int32) : Option (Int32 × Mem) :=
  (zpZ M 9 11 g0 y1).bind (fun M69 => zlt (x1 + (1 : Int32)) (fun x2_75 => fX9_endItem_76  M69 h0 x2_75))
def fX9_endItem_64  (M : Mem) (h0 : Nat) (x1 : Int32) (g0 : Nat) : Option (Int32 × Mem) :=
  fX9_endItem_69  M h0 x1 g0 (1 : Int32)
def fX9_endItem_45  (M : Mem) (h0 : Nat) (x1 : Int32) : Option (Int32 × Mem) :=
  (zgI M 9 11 h0).bind (fun v47 => if v47 = 0 then ((zgR M 9 2 h0).bind (fun v54 => (zaI M 10 v54 x1).bind (fun v58 => if v58 = (43 : Int32) then (fX9_endItem_69  M h0 x1 h0 (0 : Int32)) else (fX9_endItem_64  M h0 x1 h0)))) else (fX9_endItem_64  M h0 x1 h0))
def fX9_endItem (M0 : Mem) (p0 : Nat) (p1 : Int32) : Option (Int32 × Mem) :=
  (zgI M0 9 1 p0).bind (fun v4 => if v4 ≤ p1 then (fX9_endItem_76  M0 p0 p1) else ((zgR M0 9 2 p0).bind (fun v11 => (zaI M0 10 v11 p1).bind (fun v15 => (fX9_isRepeat v15).bind (fun v16 => if v16 = 0 then (fX9_endItem_76  M0 p0 p1) else ((zgR M0 9 2 p0).bind (fun v23 => (zaI M0 10 v23 p1).bind (fun v27 => if v27 = (63 : Int32) then (fX9_endItem_45  M0 p0 p1) else ((zgI M0 9 13 p0).bind (fun v35 => (zgI M0 9 12 p0).bind (fun v39 => (zck M0 9 p0).bind (fun u42 => (fX9_follows M0 p0 v35 v39).bind (fun M42 => fX9_endItem_45  M42 p0 p1)))))))))))))
def fX9_readPattern_367 (k52 : Mem → Nat → Int32 → Option (Int32 × Mem)) (M : Mem) (h0 : Nat) (x1 : Int32) : Option (Int32 × Mem) :=
  k52 M h0 x1
def fX9_readPattern_122 (k52 : Mem → Nat → Int32 → Option (Int32 × Mem)) (M : Mem) (h0 : Nat) (x1 : Int32) (g0 : Nat) (y1 : Int32) (y2 : Int32) : Option (Int32 × Mem) :=
  (zsI M g0 y1 y2).bind (fun M122 => (zpZ M122 9 11 h0 (0 : Int32)).bind (fun M125 => (zpI M125 9 12 h0 ((1 : Int32) <<< (x1 &&& 31))).bind (fun M132 => (zpI M132 9 13 h0 ((1 : Int32) <<< (x1 &&& 31))).bind (fun M139 => (zck M139 9 h0).bind (fun u146 => (fX9_endItem M139 h0 (x1 + (1 : Int32))).bind (fun r146 => fX9_readPattern_367 k52 r146.2 h0 r146.1))))))
def fX9_readPattern_102 (k52 : Mem → Nat → Int32 → Option (Int32 × Mem)) (M : Mem) (h0 : Nat) (x1 : Int32) (x2 : Int32) : Option (Int32 × Mem) :=
  (zgR M 9 14 h0).bind (fun v103 => if x2 = (46 : Int32) then (fX9_readPattern_122 k52 M h0 x1 v103 x1 (12 : Int32)) else (fX9_readPattern_122 k52 M h0 x1 v103 x1 (x2 - (65 : Int32))))
def fX9_readPattern_292 (k52 : Mem → Nat → Int32 → Option (Int32 × Mem)) (M : Mem) (h0 : Nat) (x1 : Int32) (x2 : Int32) (x3 : Int32) : Option (Int32 × Mem) :=
  if x2 = (47 : Int32) then ((zgI M 9 10 h0).bind (fun v299 => if v299 = 0 then (if x3 = 0 then (some (x1, M)) else ((zgI M 9 16 h0).bind (fun v310 => if v310 = 0 then ((zck M 9 h0).bind (fun u317 => (fX9_closeSequence M h0 ).bind (fun M317 => (zpZ M317 9 16 h0 (1 : Int32)).bind (fun M322 => (zgR M322 9 3 h0).bind (fun v327 => (zaI M322 12 v327 (0 : Int32)).bind (fun v331 => (zpZ M322 9 17 h0 v331).bind (fun M332 => (zgR M332 9 4 h0).bind (fun v337 => (zaI M332 11 v337 (0 : Int32)).bind (fun v341 => (zpI M332 9 18 h0 v341).bind (fun M342 => (zgR M342 9 5 h0).bind (fun v347 => (zaI M342 11 v347 (0 : Int32)).bind (fun v351 => (zpI M342 9 19 h0 v351).bind (fun M352 => (zck M352 9 h0).bind (fun u356 => (fX9_openAlternatives M352 h0 ).bind (fun M356 => zlt (x1 + (1 : Int32)) (fun x1_359 => fX9_readPattern_367 k52 M356 h0 x1_359)))))))))))))))) else (some (x1, M))))) else (some (x1, M)))) else (some (x1, M))
def fX9_readPattern_268 (k52 : Mem → Nat → Int32 → Option (Int32 × Mem)) (M : Mem) (h0 : Nat) (x1 : Int32) (x2 : Int32) (x3 : Int32) : Option (Int32 × Mem) :=
  if x2 = (124 : Int32) then (if x3 = 0 then (fX9_readPattern_292 k52 M h0 x1 x2 x3) else ((zck M 9 h0).bind (fun u279 => (fX9_closeSequence M h0 ).bind (fun M279 => (zck M279 9 h0).bind (fun u283 => (fX9_openSequence M279 h0 ).bind (fun M283 => zlt (x1 + (1 : Int32)) (fun x1_286 => fX9_readPattern_367 k52 M283 h0 x1_286))))))) else (fX9_readPattern_292 k52 M h0 x1 x2 x3)
def fX9_readPattern_187 (k52 : Mem → Nat → Int32 → Option (Int32 × Mem)) (M : Mem) (h0 : Nat) (x1 : Int32) (x2 : Int32) (x3 : Int32) : Option (Int32 × Mem) :=
  if x2 = (41 : Int32) then ((zgI M 9 10 h0).bind (fun v194 => if v194 ≤ 0 then (fX9_readPattern_268 k52 M h0 x1 x2 x3) else (if x3 = 0 then (fX9_readPattern_268 k52 M h0 x1 x2 x3) else ((zck M 9 h0).bind (fun u205 => (fX9_closeSequence M h0 ).bind (fun M205 => (zgR M205 9 3 h0).bind (fun v210 => (zgI M205 9 10 h0).bind (fun v214 => (zaI M205 12 v210 v214).bind (fun v217 => (zpZ M205 9 11 h0 v217).bind (fun M218 => (zgR M218 9 4 h0).bind (fun v223 => (zgI M218 9 10 h0).bind (fun v227 => (zaI M218 11 v223 v227).bind (fun v230 => (zpI M218 9 12 h0 v230).bind (fun M231 => (zgR M231 9 5 h0).bind (fun v236 => (zgI M231 9 10 h0).bind (fun v240 => (zaI M231 11 v236 v240).bind (fun v243 => (zpI M231 9 13 h0 v243).bind (fun M244 => (zgI M244 9 10 h0).bind (fun v249 => (zpI M244 9 10 h0 (v249 - (1 : Int32))).bind (fun M254 => (zck M254 9 h0).bind (fun u261 => (fX9_endItem M254 h0 (x1 + (1 : Int32))).bind (fun r261 => fX9_readPattern_367 k52 r261.2 h0 r261.1)))))))))))))))))))))) else (fX9_readPattern_268 k52 M h0 x1 x2 x3)
def fX9_readPattern_84 (k52 : Mem → Nat → Int32 → Option (Int32 × Mem)) (M : Mem) (h0 : Nat) (x1 : Int32) (x2 : Int32) (y0 : Int32) : Option (Int32 × Mem) :=
  (fX9_in x2 (65 : Int32) (76 : Int32)).bind (fun v90 => if v90 = 0 then (if x2 = (46 : Int32) then (fX9_readPattern_102 k52 M h0 x1 x2) else (if x2 = (40 : Int32) then ((zgI M 9 10 h0).bind (fun v160 => if (4 : Int32) ≤ v160 then (fX9_readPattern_187 k52 M h0 x1 x2 y0) else ((zgI M 9 10 h0).bind (fun v169 => (zpI M 9 10 h0 (v169 + (1 : Int32))).bind (fun M174 => (zck M174 9 h0).bind (fun u178 => (fX9_openAlternatives M174 h0 ).bind (fun M178 => zlt (x1 + (1 : Int32)) (fun x1_181 => fX9_readPattern_367 k52 M178 h0 x1_181)))))))) else (fX9_readPattern_187 k52 M h0 x1 x2 y0))) else (fX9_readPattern_102 k52 M h0 x1 x2))
def fX9_readPattern_386  (M : Mem) (h0 : Nat) : Option (Int32 × Mem) :=
  (zgI M 9 1 h0).bind (fun v387 => some (v387, M))
def fX9_readPattern_52  (k52 : Mem → Nat → Int32 → Option (Int32 × Mem)) (M : Mem) (h0 : Nat) (x1 : Int32) : Option (Int32 × Mem) :=
  (zgI M 9 1 h0).bind (fun v54 => if v54 ≤ x1 then ((zgI M 9 10 h0).bind (fun v371 => if 0 < v371 then (fX9_readPattern_386  M h0) else ((zgR M 9 9 h0).bind (fun v378 => (zaI M 11 v378 (0 : Int32)).bind (fun v382 => if v382 = 0 then (fX9_readPattern_386  M h0) else ((zck M 9 h0).bind (fun u392 => (fX9_closeSequence M h0 ).bind (fun M392 => some ((-1 : Int32), M392))))))))) else ((zgR M 9 2 h0).bind (fun v61 => (zaI M 10 v61 x1).bind (fun v65 => (zgR M 9 9 h0).bind (fun v68 => (zgI M 9 10 h0).bind (fun v72 => (zaI M 11 v68 v72).bind (fun v75 => if v75 ≤ 0 then (fX9_readPattern_84 k52 M h0 x1 v65 (0 : Int32)) else (fX9_readPattern_84 k52 M h0 x1 v65 (1 : Int32)))))))))
def fX9_readPattern_52L  (n : Nat) : Mem → Nat → Int32 → Option (Int32 × Mem) := zit (fun _ _ _ => none) (fX9_readPattern_52 ) n
def fX9_readPattern_27  (k27 : Mem → Nat → Int32 → Option (Int32 × Mem)) (M : Mem) (h0 : Nat) (x1 : Int32) : Option (Int32 × Mem) :=
  if (24 : Int32) ≤ x1 then ((zck M 9 h0).bind (fun u47 => (fX9_openAlternatives M h0 ).bind (fun M47 => fX9_readPattern_52L  zFU M47 h0 (0 : Int32)))) else ((zgR M 9 15 h0).bind (fun v34 => (zsI M v34 x1 (0 : Int32)).bind (fun M39 => zlt (x1 + (1 : Int32)) (fun x1_40 => k27 M39 h0 x1_40))))
def fX9_readPattern_27L  (n : Nat) : Mem → Nat → Int32 → Option (Int32 × Mem) := zit (fun _ _ _ => none) (fX9_readPattern_27 ) n
def fX9_readPattern (M0 : Mem) (p0 : Nat) : Option (Int32 × Mem) :=
  (zpI M0 9 10 p0 (0 : Int32)).bind (fun M2 => (zpZ M2 9 16 p0 (0 : Int32)).bind (fun M7 => (zpZ M7 9 17 p0 (0 : Int32)).bind (fun M12 => (zpI M12 9 18 p0 (0 : Int32)).bind (fun M17 => (zpI M17 9 19 p0 (0 : Int32)).bind (fun M22 => fX9_readPattern_27L  zFU M22 p0 (0 : Int32))))))
def fX9_keepRule_173  (k173 : Mem → Nat → Int32 → Int32 → Option Mem) (M : Mem) (h0 : Nat) (x1 : Int32) (x2 : Int32) : Option Mem :=
  (zgI M 9 1 h0).bind (fun v175 => if v175 ≤ x2 then (some M) else ((zgR M 9 21 h0).bind (fun v182 => (zgR M 9 2 h0).bind (fun v192 => (zaI M 10 v192 x2).bind (fun v196 => (zsC M v182 (((24 : Int32) * x1) + x2) v196).bind (fun M197 => (zgR M197 9 22 h0).bind (fun v199 => (zgR M197 9 14 h0).bind (fun v209 => (zaI M197 11 v209 x2).bind (fun v213 => (zsI M197 v199 (((24 : Int32) * x1) + x2) v213).bind (fun M214 => (zgR M214 9 23 h0).bind (fun v216 => (zgR M214 9 15 h0).bind (fun v226 => (zaI M214 11 v226 x2).bind (fun v230 => (zsI M214 v216 (((24 : Int32) * x1) + x2) v230).bind (fun M231 => zlt (x2 + (1 : Int32)) (fun x2_232 => k173 M231 h0 x1 x2_232)))))))))))))))
def fX9_keepRule_173L  (n : Nat) : Mem → Nat → Int32 → Int32 → Option Mem := zit (fun _ _ _ _ => none) (fX9_keepRule_173 ) n
def fX9_keepRule_170  (M : Mem) (h0 : Nat) (x1 : Int32) (g0 : Nat) (y1 : Int32) (y2 : Int32) : Option Mem :=
  (zsI M g0 y1 y2).bind (fun M170 => fX9_keepRule_173L  zFU M170 h0 x1 (0 : Int32))
def fX9_keepRule_147  (M : Mem) (h0 : Nat) (x1 : Int32) (g0 : Nat) (y1 : Int32) (y2 : Int32) : Option Mem :=
  (zsI M g0 y1 y2).bind (fun M147 => (zgR M147 9 30 h0).bind (fun v149 => (zgI M147 9 16 h0).bind (fun v154 => if v154 = 0 then (fX9_keepRule_170  M147 h0 x1 v149 x1 (0 : Int32)) else ((zgR M147 9 5 h0).bind (fun v161 => (zaI M147 11 v161 (0 : Int32)).bind (fun v165 => fX9_keepRule_170  M147 h0 x1 v149 x1 v165))))))
def fX9_keepRule_124  (M : Mem) (h0 : Nat) (x1 : Int32) (g0 : Nat) (y1 : Int32) (y2 : Int32) : Option Mem :=
  (zsZ M g0 y1 y2).bind (fun M124 => (zgR M124 9 29 h0).bind (fun v126 => (zgI M124 9 16 h0).bind (fun v131 => if v131 = 0 then (fX9_keepRule_147  M124 h0 x1 v126 x1 (0 : Int32)) else ((zgR M124 9 4 h0).bind (fun v138 => (zaI M124 11 v138 (0 : Int32)).bind (fun v142 => fX9_keepRule_147  M124 h0 x1 v126 x1 v142))))))
def fX9_keepRule_119  (M : Mem) (h0 : Nat) (x1 : Int32) (g0 : Nat) (y1 : Int32) : Option Mem :=
  fX9_keepRule_124  M h0 x1 g0 y1 (1 : Int32)
def fX9_keepRule_97  (M : Mem) (h0 : Nat) (x1 : Int32) (g0 : Nat) (y1 : Int32) (y2 : Int32) : Option Mem :=
  (zsI M g0 y1 y2).bind (fun M97 => (zgR M97 9 28 h0).bind (fun v99 => (zgI M97 9 16 h0).bind (fun v104 => if v104 = 0 then (fX9_keepRule_119  M97 h0 x1 v99 x1) else ((zgR M97 9 3 h0).bind (fun v111 => (zaI M97 12 v111 (0 : Int32)).bind (fun v115 => if v115 = 0 then (fX9_keepRule_124  M97 h0 x1 v99 x1 (0 : Int32)) else (fX9_keepRule_119  M97 h0 x1 v99 x1)))))))
def fX9_keepRule_71  (M : Mem) (h0 : Nat) (x1 : Int32) (g0 : Nat) (y1 : Int32) (y2 : Int32) : Option Mem :=
  (zsI M g0 y1 y2).bind (fun M71 => (zgR M71 9 27 h0).bind (fun v73 => (zgI M71 9 16 h0).bind (fun v78 => if v78 = 0 then ((zgR M71 9 5 h0).bind (fun v92 => (zaI M71 11 v92 (0 : Int32)).bind (fun v96 => fX9_keepRule_97  M71 h0 x1 v73 x1 v96))) else ((zgI M71 9 19 h0).bind (fun v85 => fX9_keepRule_97  M71 h0 x1 v73 x1 v85)))))
def fX9_keepRule_45  (M : Mem) (h0 : Nat) (x1 : Int32) (g0 : Nat) (y1 : Int32) (y2 : Int32) : Option Mem :=
  (zsZ M g0 y1 y2).bind (fun M45 => (zgR M45 9 26 h0).bind (fun v47 => (zgI M45 9 16 h0).bind (fun v52 => if v52 = 0 then ((zgR M45 9 4 h0).bind (fun v66 => (zaI M45 11 v66 (0 : Int32)).bind (fun v70 => fX9_keepRule_71  M45 h0 x1 v47 x1 v70))) else ((zgI M45 9 18 h0).bind (fun v59 => fX9_keepRule_71  M45 h0 x1 v47 x1 v59)))))
def fX9_keepRule (M0 : Mem) (p0 : Nat) (p1 : Int32) : Option Mem :=
  (zgR M0 9 20 p0).bind (fun v1 => (zgI M0 9 1 p0).bind (fun v6 => (zsI M0 v1 p1 v6).bind (fun M9 => (zgR M9 9 24 p0).bind (fun v11 => (zgI M9 9 16 p0).bind (fun v16 => (zsZ M9 v11 p1 v16).bind (fun M19 => (zgR M19 9 25 p0).bind (fun v21 => (zgI M19 9 16 p0).bind (fun v26 => if v26 = 0 then ((zgR M19 9 3 p0).bind (fun v40 => (zaI M19 12 v40 (0 : Int32)).bind (fun v44 => fX9_keepRule_45  M19 p0 p1 v21 p1 v44))) else ((zgI M19 9 17 p0).bind (fun v33 => fX9_keepRule_45  M19 p0 p1 v21 p1 v33))))))))))
def fX9_noRulePlace_18   : Option Int32 :=
  zrp .boolean (1 : Int32)
def fX9_noRulePlace (p0 : Int32) (p1 : Int32) : Option Int32 :=
  (fX9_in p0 (0 : Int32) (2 : Int32)).bind (fun v3 => if v3 = 0 then (fX9_noRulePlace_18  ) else ((fX9_in p1 (0 : Int32) (4 : Int32)).bind (fun v12 => if v12 = 0 then (fX9_noRulePlace_18  ) else (zrp .boolean (0 : Int32)))))
def fX9_setRule_31  (M : Mem) (h0 : Nat) (x1 : Int32) (x3 : Int32) (y0 : Int32) : Option (Int32 × Mem) :=
  (zgI M 9 1 h0).bind (fun v34 => if v34 = 0 then ((zgR M 9 20 h0).bind (fun v41 => (zsI M v41 x3 (0 : Int32)).bind (fun M46 => if y0 = (1 : Int32) then ((zck M46 9 h0).bind (fun u55 => (fX9_analyse M46 h0 x1).bind (fun M55 => some (y0, M55)))) else (some (y0, M46))))) else ((zck M 9 h0).bind (fun u62 => (fX9_readPattern M h0 ).bind (fun r62 => if r62.1 < 0 then ((zck r62.2 9 h0).bind (fun u80 => (fX9_keepRule r62.2 h0 x3).bind (fun M80 => (zck M80 9 h0).bind (fun u85 => (fX9_analyse M80 h0 x1).bind (fun M85 => some (y0, M85)))))) else (some ((-100 : Int32) - r62.1, r62.2))))))
def fX9_setRule (M0 : Mem) (p0 : Nat) (p1 : Int32) (p2 : Int32) : Option (Int32 × Mem) :=
  (fX9_noRulePlace p1 p2).bind (fun v2 => if v2 = 0 then (zlt (((5 : Int32) * p1) + p2) (fun x3_16 => (zgR M0 9 20 p0).bind (fun v18 => (zaI M0 11 v18 x3_16).bind (fun v22 => if v22 ≤ 0 then (fX9_setRule_31  M0 p0 p1 x3_16 (0 : Int32)) else (fX9_setRule_31  M0 p0 p1 x3_16 (1 : Int32)))))) else (some ((-2 : Int32), M0)))
def fX9_ruleText (M0 : Mem) (p0 : Nat) (p1 : Int32) (p2 : Int32) (p3 : Int32) : Option (Int32 × Mem) :=
  (fX9_noRulePlace p1 p2).bind (fun v2 => if v2 = 0 then (if 0 ≤ p3 then (zlt (((5 : Int32) * p1) + p2) (fun x4_20 => (zgR M0 9 20 p0).bind (fun v24 => (zaI M0 11 v24 x4_20).bind (fun v29 => if v29 ≤ p3 then (some ((-5 : Int32), M0)) else ((zgR M0 9 21 p0).bind (fun v34 => (zaI M0 10 v34 (((24 : Int32) * x4_20) + p3)).bind (fun v44 => some (v44, M0)))))))) else (some ((-2 : Int32), M0))) else (some ((-2 : Int32), M0)))
def fX9_noKind (p0 : Int32) : Option Int32 :=
  (fX9_in p0 (0 : Int32) (2 : Int32)).bind (fun v3 => if v3 = 0 then (zrp .boolean (1 : Int32)) else (zrp .boolean (0 : Int32)))
def fX9_noPosition (M0 : Mem) (p0 : Nat) (p1 : Int32) : Option (Int32 × Mem) :=
  (zgI M0 9 31 p0).bind (fun v3 => (fX9_in p1 (0 : Int32) v3).bind (fun v6 => if v6 = 0 then (zrt .boolean (1 : Int32) M0) else (zrt .boolean (0 : Int32) M0)))
def fX9_matchLength (M0 : Mem) (p0 : Nat) (p1 : Int32) (p2 : Int32) (p3 : Int32) : Option (Int32 × Mem) :=
  (fX9_noRulePlace p1 p2).bind (fun v2 => if v2 = 0 then ((zck M0 9 p0).bind (fun u13 => (fX9_noPosition M0 p0 p3).bind (fun r13 => if r13.1 = 0 then (zlt (((5 : Int32) * p1) + p2) (fun x4_26 => (zgR r13.2 9 20 p0).bind (fun v29 => (zaI r13.2 11 v29 x4_26).bind (fun v34 => if v34 = 0 then (some ((-5 : Int32), r13.2)) else ((zck r13.2 9 p0).bind (fun u47 => (fX9_lengthOf r13.2 p0 x4_26 p3).bind (fun r47 => some (r47.1, r47.2)))))))) else (some ((-1 : Int32), r13.2))))) else (some ((-2 : Int32), M0)))
def fX9_farOf_91 (k30 : Mem → Nat → Int32 → Int32 → Int32 → Int32 → Option (Int32 × Mem)) (M : Mem) (h0 : Nat) (x1 : Int32) (x2 : Int32) (x4 : Int32) (y0 : Int32) (y1 : Int32) : Option (Int32 × Mem) :=
  zlt (y0 ||| y1) (fun x3_92 => k30 M h0 x1 x2 x3_92 x4)
def fX9_farOf_30  (k30 : Mem → Nat → Int32 → Int32 → Int32 → Int32 → Option (Int32 × Mem)) (M : Mem) (h0 : Nat) (x1 : Int32) (x2 : Int32) (x3 : Int32) (x4 : Int32) : Option (Int32 × Mem) :=
  (zgI M 9 31 h0).bind (fun v33 => if v33 ≤ x4 then ((zgI M 9 31 h0).bind (fun v97 => some ((v97 + (1 : Int32)) - x2, M))) else ((zck M 9 h0).bind (fun u44 => (fX9_matching M h0 x1 x3 x4).bind (fun r44 => zlt (x4 + (1 : Int32)) (fun x4_49 => if r44.1 = 0 then (some (x4_49 - x2, r44.2)) else ((zck r44.2 9 h0).bind (fun u66 => (fX9_behind r44.2 h0 x1 r44.1).bind (fun r66 => (zgR r66.2 9 27 h0).bind (fun v72 => (zaI r66.2 11 v72 x1).bind (fun v76 => if (r44.1 &&& v76) = 0 then (fX9_farOf_91 k30 r66.2 h0 x1 x2 x4_49 r66.1 (0 : Int32)) else ((zgR r66.2 9 29 h0).bind (fun v82 => (zaI r66.2 11 v82 x1).bind (fun v86 => fX9_farOf_91 k30 r66.2 h0 x1 x2 x4_49 r66.1 v86)))))))))))))
def fX9_farOf_30L  (n : Nat) : Mem → Nat → Int32 → Int32 → Int32 → Int32 → Option (Int32 × Mem) := zit (fun _ _ _ _ _ _ => none) (fX9_farOf_30 ) n
def fX9_farOf_25  (M : Mem) (h0 : Nat) (x1 : Int32) (x2 : Int32) (y0 : Int32) (y1 : Int32) : Option (Int32 × Mem) :=
  zlt (y0 ||| y1) (fun x3_26 => fX9_farOf_30L  zFU M h0 x1 x2 x3_26 x2)
def fX9_farOf (M0 : Mem) (p0 : Nat) (p1 : Int32) (p2 : Int32) : Option (Int32 × Mem) :=
  (zgR M0 9 26 p0).bind (fun v1 => (zaI M0 11 v1 p1).bind (fun v5 => (zgR M0 9 25 p0).bind (fun v7 => (zaI M0 12 v7 p1).bind (fun v11 => if v11 = 0 then (fX9_farOf_25  M0 p0 p1 p2 v5 (0 : Int32)) else ((zgR M0 9 29 p0).bind (fun v16 => (zaI M0 11 v16 p1).bind (fun v20 => fX9_farOf_25  M0 p0 p1 p2 v5 v20)))))))
def fX9_looksFrom_52 (k7 : Mem → Nat → Int32 → Int32 → Int32 → Int32 → Option (Int32 × Mem)) (M : Mem) (h0 : Nat) (x1 : Int32) (x2 : Int32) (x4 : Int32) (y0 : Int32) : Option (Int32 × Mem) :=
  zlt (x4 + (1 : Int32)) (fun x4_53 => k7 M h0 x1 x2 y0 x4_53)
def fX9_looksFrom_38 (k7 : Mem → Nat → Int32 → Int32 → Int32 → Int32 → Option (Int32 × Mem)) (M : Mem) (h0 : Nat) (x1 : Int32) (x2 : Int32) (x3 : Int32) (x4 : Int32) (y0 : Int32) : Option (Int32 × Mem) :=
  if y0 ≤ x3 then (fX9_looksFrom_52 k7 M h0 x1 x2 x4 x3) else (fX9_looksFrom_52 k7 M h0 x1 x2 x4 y0)
def fX9_looksFrom_7  (k7 : Mem → Nat → Int32 → Int32 → Int32 → Int32 → Option (Int32 × Mem)) (M : Mem) (h0 : Nat) (x1 : Int32) (x2 : Int32) (x3 : Int32) (x4 : Int32) : Option (Int32 × Mem) :=
  if (((5 : Int32) * x1) + (5 : Int32)) ≤ x4 then (some (x3, M)) else ((zgR M 9 20 h0).bind (fun v18 => (zaI M 11 v18 x4).bind (fun v23 => if v23 ≤ 0 then (fX9_looksFrom_38 k7 M h0 x1 x2 x3 x4 (0 : Int32)) else ((zck M 9 h0).bind (fun u31 => (fX9_farOf M h0 x4 x2).bind (fun r31 => fX9_looksFrom_38 k7 r31.2 h0 x1 x2 x3 x4 r31.1))))))
def fX9_looksFrom_7L  (n : Nat) : Mem → Nat → Int32 → Int32 → Int32 → Int32 → Option (Int32 × Mem) := zit (fun _ _ _ _ _ _ => none) (fX9_looksFrom_7 ) n
def fX9_looksFrom (M0 : Mem) (p0 : Nat) (p1 : Int32) (p2 : Int32) : Option (Int32 × Mem) :=
  zlt ((5 : Int32) * p1) (fun x4_5 => fX9_looksFrom_7L  zFU M0 p0 p1 p2 (1 : Int32) x4_5)
def fX9_looksAt (M0 : Mem) (p0 : Nat) (p1 : Int32) (p2 : Int32) : Option (Int32 × Mem) :=
  (fX9_noKind p1).bind (fun v1 => if v1 = 0 then ((zgI M0 9 31 p0).bind (fun v13 => (fX9_in p2 (0 : Int32) (v13 - (1 : Int32))).bind (fun v18 => if v18 = 0 then (some ((-1 : Int32), M0)) else ((zck M0 9 p0).bind (fun u27 => (fX9_looksFrom M0 p0 p1 p2).bind (fun r27 => some (r27.1, r27.2))))))) else (some ((-2 : Int32), M0)))
def fX9_raw (M0 : Mem) (p0 : Nat) (p1 : Int32) (p2 : Int32) : Option (Int32 × Mem) :=
  (zgR M0 9 34 p0).bind (fun v1 => (zaI M0 11 v1 (((101 : Int32) * p1) + p2)).bind (fun v10 => some (v10, M0)))
def fX9_wasRaw_3  (k3 : Mem → Nat → Int32 → Int32 → Int32 → Option (Int32 × Mem)) (M : Mem) (h1 : Nat) (x2 : Int32) (x3 : Int32) (x4 : Int32) : Option (Int32 × Mem) :=
  if x2 ≤ x4 then (zrt .boolean (0 : Int32) M) else ((zaI M 11 h1 x4).bind (fun v12 => if v12 = x3 then (zrt .boolean (1 : Int32) M) else (zlt (x4 + (1 : Int32)) (fun x4_19 => k3 M h1 x2 x3 x4_19))))
def fX9_wasRaw_3L  (n : Nat) : Mem → Nat → Int32 → Int32 → Int32 → Option (Int32 × Mem) := zit (fun _ _ _ _ _ => none) (fX9_wasRaw_3 ) n
def fX9_wasRaw (M0 : Mem) (p0 : Nat) (p1 : Nat) (p2 : Int32) (p3 : Int32) : Option (Int32 × Mem) :=
  fX9_wasRaw_3L  zFU M0 p1 p2 p3 (0 : Int32)
def fX9_findStarts_49 (k2 : Mem → Nat → Int32 → Int32 → Option Mem) (M : Mem) (h0 : Nat) (x1 : Int32) (x2 : Int32) (x3 : Int32) : Option Mem :=
  (zgR M 9 36 h0).bind (fun v50 => (zsI M v50 x2 x3).bind (fun M55 => zlt (x2 + (1 : Int32)) (fun x2_56 => k2 M55 h0 x1 x2_56)))
def fX9_findStarts_9 (k2 : Mem → Nat → Int32 → Int32 → Option Mem) (k9 : Mem → Nat → Int32 → Int32 → Int32 → Option Mem) (M : Mem) (h0 : Nat) (x1 : Int32) (x2 : Int32) (x3 : Int32) : Option Mem :=
  (zgR M 9 33 h0).bind (fun v11 => (zaI M 11 v11 x2).bind (fun v15 => if (v15 - (1 : Int32)) ≤ x3 then (fX9_findStarts_49 k2 M h0 x1 x2 x3) else ((zck M 9 h0).bind (fun u24 => (fX9_raw M h0 x2 x3).bind (fun r24 => (zck r24.2 9 h0).bind (fun u32 => (fX9_raw r24.2 h0 x2 x3).bind (fun r32 => (zck r32.2 9 h0).bind (fun u35 => (fX9_looksFrom r32.2 h0 x2 r32.1).bind (fun r35 => if x1 < (r24.1 + r35.1) then (fX9_findStarts_49 k2 r35.2 h0 x1 x2 x3) else (zlt (x3 + (1 : Int32)) (fun x3_43 => k9 r35.2 h0 x1 x2 x3_43)))))))))))
def fX9_findStarts_9L (k2 : Mem → Nat → Int32 → Int32 → Option Mem) (n : Nat) : Mem → Nat → Int32 → Int32 → Int32 → Option Mem := zit (fun _ _ _ _ _ => none) (fX9_findStarts_9 k2) n
def fX9_findStarts_2  (k2 : Mem → Nat → Int32 → Int32 → Option Mem) (M : Mem) (h0 : Nat) (x1 : Int32) (x2 : Int32) : Option Mem :=
  if (3 : Int32) ≤ x2 then (some M) else (fX9_findStarts_9L k2 zFU M h0 x1 x2 (0 : Int32))
def fX9_findStarts_2L  (n : Nat) : Mem → Nat → Int32 → Int32 → Option Mem := zit (fun _ _ _ _ => none) (fX9_findStarts_2 ) n
def fX9_findStarts (M0 : Mem) (p0 : Nat) (p1 : Int32) : Option Mem :=
  fX9_findStarts_2L  zFU M0 p0 p1 (0 : Int32)
def fX9_repair_104 (k72 : Mem → Nat → Int32 → Int32 → Int32 → Int32 → Int32 → Option Mem) (M : Mem) (h0 : Nat) (x1 : Int32) (x2 : Int32) (x3 : Int32) (x4 : Int32) (x5 : Int32) : Option Mem :=
  (zck M 9 h0).bind (fun u110 => (fX9_segmentAt M h0 x1 x5).bind (fun r110 => zlt (x5 + r110.1) (fun x5_114 => (zck r110.2 9 h0).bind (fun u120 => (fX9_append r110.2 h0 x1 x5_114).bind (fun M120 => (zgR M120 9 35 h0).bind (fun v124 => (zaI M120 11 v124 x1).bind (fun v129 => (zsI M120 v124 x1 (v129 + (1 : Int32))).bind (fun M132 => k72 M132 h0 x1 x2 x3 x4 x5_114))))))))
def fX9_repair_183 (k139 : Mem → Nat → Int32 → Int32 → Int32 → Int32 → Int32 → Option Mem) (M : Mem) (h0 : Nat) (x1 : Int32) (x3 : Int32) (x4 : Int32) (x5 : Int32) (x6 : Int32) : Option Mem :=
  zlt (x6 + (1 : Int32)) (fun x6_183 => k139 M h0 x1 x3 x4 x5 x6_183)
def fX9_repair_139  (k139 : Mem → Nat → Int32 → Int32 → Int32 → Int32 → Int32 → Option Mem) (M : Mem) (h0 : Nat) (x1 : Int32) (x3 : Int32) (x4 : Int32) (x5 : Int32) (x6 : Int32) : Option Mem :=
  if x4 ≤ x6 then (some M) else ((zgR M 9 37 h0).bind (fun v147 => (zaI M 11 v147 x6).bind (fun v152 => if (v152 + x3) ≤ x5 then (fX9_repair_183 k139 M h0 x1 x3 x4 x5 x6) else ((zgI M 9 31 h0).bind (fun v163 => if v163 ≤ x5 then (fX9_repair_183 k139 M h0 x1 x3 x4 x5 x6) else ((zgR M 9 37 h0).bind (fun v172 => (zaI M 11 v172 x6).bind (fun v177 => (zck M 9 h0).bind (fun u180 => (fX9_append M h0 x1 (v177 + x3)).bind (fun M180 => fX9_repair_183 k139 M180 h0 x1 x3 x4 x5 x6))))))))))
def fX9_repair_139L  (n : Nat) : Mem → Nat → Int32 → Int32 → Int32 → Int32 → Int32 → Option Mem := zit (fun _ _ _ _ _ _ _ => none) (fX9_repair_139 ) n
def fX9_repair_136  (M : Mem) (h0 : Nat) (x1 : Int32) (x3 : Int32) (x4 : Int32) (x5 : Int32) : Option Mem :=
  fX9_repair_139L  zFU M h0 x1 x3 x4 x5 (0 : Int32)
def fX9_repair_72  (k72 : Mem → Nat → Int32 → Int32 → Int32 → Int32 → Int32 → Option Mem) (M : Mem) (h0 : Nat) (x1 : Int32) (x2 : Int32) (x3 : Int32) (x4 : Int32) (x5 : Int32) : Option Mem :=
  (zgI M 9 31 h0).bind (fun v75 => if v75 ≤ x5 then (fX9_repair_136  M h0 x1 x3 x4 x5) else (if x5 < x2 then (fX9_repair_104 k72 M h0 x1 x2 x3 x4 x5) else ((zgR M 9 37 h0).bind (fun v89 => (zck M 9 h0).bind (fun u98 => (fX9_wasRaw M h0 v89 x4 (x5 - x3)).bind (fun r98 => if r98.1 = 0 then (fX9_repair_104 k72 r98.2 h0 x1 x2 x3 x4 x5) else (fX9_repair_136  r98.2 h0 x1 x3 x4 x5)))))))
def fX9_repair_72L  (n : Nat) : Mem → Nat → Int32 → Int32 → Int32 → Int32 → Int32 → Option Mem := zit (fun _ _ _ _ _ _ _ => none) (fX9_repair_72 ) n
def fX9_repair_11  (k11 : Mem → Nat → Int32 → Int32 → Int32 → Int32 → Int32 → Option Mem) (M : Mem) (h0 : Nat) (x1 : Int32) (x2 : Int32) (x3 : Int32) (x4 : Int32) (x5 : Int32) : Option Mem :=
  if x4 ≤ x5 then ((zgR M 9 33 h0).bind (fun v39 => (zgR M 9 36 h0).bind (fun v44 => (zaI M 11 v44 x1).bind (fun v48 => (zsI M v39 x1 (v48 + (1 : Int32))).bind (fun M51 => (zgR M51 9 35 h0).bind (fun v53 => (zsI M51 v53 x1 (0 : Int32)).bind (fun M58 => (zgR M58 9 36 h0).bind (fun v62 => (zaI M58 11 v62 x1).bind (fun v66 => (zck M58 9 h0).bind (fun u67 => (fX9_raw M58 h0 x1 v66).bind (fun r67 => fX9_repair_72L  zFU r67.2 h0 x1 x2 x3 x4 r67.1))))))))))) else ((zgR M 9 37 h0).bind (fun v19 => (zck M 9 h0).bind (fun u28 => (fX9_raw M h0 x1 x5).bind (fun r28 => (zsI r28.2 v19 x5 r28.1).bind (fun M31 => zlt (x5 + (1 : Int32)) (fun x5_32 => k11 M31 h0 x1 x2 x3 x4 x5_32))))))
def fX9_repair_11L  (n : Nat) : Mem → Nat → Int32 → Int32 → Int32 → Int32 → Int32 → Option Mem := zit (fun _ _ _ _ _ _ _ => none) (fX9_repair_11 ) n
def fX9_repair (M0 : Mem) (p0 : Nat) (p1 : Int32) (p2 : Int32) (p3 : Int32) : Option Mem :=
  (zgR M0 9 33 p0).bind (fun v1 => (zaI M0 11 v1 p1).bind (fun v5 => fX9_repair_11L  zFU M0 p0 p1 p2 p3 v5 (0 : Int32)))
def fX9_repairAll_2  (k2 : Mem → Nat → Int32 → Int32 → Int32 → Option Mem) (M : Mem) (h0 : Nat) (x1 : Int32) (x2 : Int32) (x3 : Int32) : Option Mem :=
  if (3 : Int32) ≤ x3 then (some M) else ((zck M 9 h0).bind (fun u11 => (fX9_repair M h0 x3 x1 x2).bind (fun M11 => zlt (x3 + (1 : Int32)) (fun x3_14 => k2 M11 h0 x1 x2 x3_14))))
def fX9_repairAll_2L  (n : Nat) : Mem → Nat → Int32 → Int32 → Int32 → Option Mem := zit (fun _ _ _ _ _ => none) (fX9_repairAll_2 ) n
def fX9_repairAll (M0 : Mem) (p0 : Nat) (p1 : Int32) (p2 : Int32) : Option Mem :=
  fX9_repairAll_2L  zFU M0 p0 p1 p2 (0 : Int32)
def fX9_putIn_39  (k39 : Mem → Nat → Int32 → Int32 → Int32 → Option Mem) (M : Mem) (h0 : Nat) (x1 : Int32) (x2 : Int32) (x3 : Int32) : Option Mem :=
  if x2 ≤ x3 then ((zgI M 9 31 h0).bind (fun v66 => (zpI M 9 31 h0 (v66 + x2)).bind (fun M71 => (zck M71 9 h0).bind (fun u79 => (fX9_repairAll M71 h0 (x1 + x2) x2).bind (fun M79 => some M79))))) else ((zgR M 9 32 h0).bind (fun v45 => (zgR M 9 38 h0).bind (fun v52 => (zaI M 10 v52 x3).bind (fun v56 => (zsC M v45 (x1 + x3) v56).bind (fun M57 => zlt (x3 + (1 : Int32)) (fun x3_58 => k39 M57 h0 x1 x2 x3_58))))))
def fX9_putIn_39L  (n : Nat) : Mem → Nat → Int32 → Int32 → Int32 → Option Mem := zit (fun _ _ _ _ _ => none) (fX9_putIn_39 ) n
def fX9_putIn_12  (k12 : Mem → Nat → Int32 → Int32 → Int32 → Option Mem) (M : Mem) (h0 : Nat) (x1 : Int32) (x2 : Int32) (x3 : Int32) : Option Mem :=
  if x3 < x1 then (fX9_putIn_39L  zFU M h0 x1 x2 (0 : Int32)) else ((zgR M 9 32 h0).bind (fun v18 => (zgR M 9 32 h0).bind (fun v25 => (zaI M 10 v25 x3).bind (fun v29 => (zsC M v18 (x3 + x2) v29).bind (fun M30 => zlt (x3 + (-1 : Int32)) (fun x3_31 => k12 M30 h0 x1 x2 x3_31))))))
def fX9_putIn_12L  (n : Nat) : Mem → Nat → Int32 → Int32 → Int32 → Option Mem := zit (fun _ _ _ _ _ => none) (fX9_putIn_12 ) n
def fX9_putIn (M0 : Mem) (p0 : Nat) (p1 : Int32) (p2 : Int32) : Option Mem :=
  (zck M0 9 p0).bind (fun u2 => (fX9_findStarts M0 p0 p1).bind (fun M2 => (zgI M2 9 31 p0).bind (fun v6 => zlt (v6 - (1 : Int32)) (fun x3_11 => fX9_putIn_12L  zFU M2 p0 p1 p2 x3_11))))
def fX9_takeOut_17  (k17 : Mem → Nat → Int32 → Int32 → Int32 → Option Mem) (M : Mem) (h0 : Nat) (x1 : Int32) (x2 : Int32) (x3 : Int32) : Option Mem :=
  (zgI M 9 31 h0).bind (fun v19 => if v19 ≤ x3 then ((zck M 9 h0).bind (fun u49 => (fX9_repairAll M h0 x1 (-x2)).bind (fun M49 => some M49))) else ((zgR M 9 32 h0).bind (fun v26 => (zgR M 9 32 h0).bind (fun v31 => (zaI M 10 v31 (x3 + x2)).bind (fun v37 => (zsC M v26 x3 v37).bind (fun M38 => zlt (x3 + (1 : Int32)) (fun x3_39 => k17 M38 h0 x1 x2 x3_39)))))))
def fX9_takeOut_17L  (n : Nat) : Mem → Nat → Int32 → Int32 → Int32 → Option Mem := zit (fun _ _ _ _ _ => none) (fX9_takeOut_17 ) n
def fX9_takeOut (M0 : Mem) (p0 : Nat) (p1 : Int32) (p2 : Int32) : Option Mem :=
  (zck M0 9 p0).bind (fun u2 => (fX9_findStarts M0 p0 p1).bind (fun M2 => (zgI M2 9 31 p0).bind (fun v7 => (zpI M2 9 31 p0 (v7 - p2)).bind (fun M12 => fX9_takeOut_17L  zFU M12 p0 p1 p2 p1))))
def fX9_remember_82 (k22 : Mem → Nat → Int32 → Int32 → Int32 → Int32 → Option Mem) (k82 : Mem → Nat → Int32 → Int32 → Int32 → Int32 → Int32 → Option Mem) (M : Mem) (h0 : Nat) (x1 : Int32) (x2 : Int32) (x3 : Int32) (x4 : Int32) (x5 : Int32) : Option Mem :=
  if (100 : Int32) ≤ x5 then (zlt (x4 + (1 : Int32)) (fun x4_124 => k22 M h0 x1 x2 x3 x4_124)) else ((zgR M 9 43 h0).bind (fun v90 => (zgR M 9 43 h0).bind (fun v102 => (zaI M 10 v102 ((((100 : Int32) * x4) + (100 : Int32)) + x5)).bind (fun v116 => (zsC M v90 (((100 : Int32) * x4) + x5) v116).bind (fun M117 => zlt (x5 + (1 : Int32)) (fun x5_118 => k82 M117 h0 x1 x2 x3 x4 x5_118))))))
def fX9_remember_82L (k22 : Mem → Nat → Int32 → Int32 → Int32 → Int32 → Option Mem) (n : Nat) : Mem → Nat → Int32 → Int32 → Int32 → Int32 → Int32 → Option Mem := zit (fun _ _ _ _ _ _ _ => none) (fX9_remember_82 k22) n
def fX9_remember_163  (k163 : Mem → Nat → Int32 → Int32 → Option Mem) (M : Mem) (h0 : Nat) (x3 : Int32) (x4 : Int32) : Option Mem :=
  if x3 ≤ x4 then ((zgI M 9 39 h0).bind (fun v199 => (zpI M 9 39 h0 (v199 + (1 : Int32))).bind (fun M204 => some M204))) else ((zgR M 9 43 h0).bind (fun v170 => (zgI M 9 39 h0).bind (fun v176 => (zgR M 9 38 h0).bind (fun v184 => (zaI M 10 v184 x4).bind (fun v189 => (zsC M v170 (((100 : Int32) * v176) + x4) v189).bind (fun M190 => zlt (x4 + (1 : Int32)) (fun x4_191 => k163 M190 h0 x3 x4_191)))))))
def fX9_remember_163L  (n : Nat) : Mem → Nat → Int32 → Int32 → Option Mem := zit (fun _ _ _ _ => none) (fX9_remember_163 ) n
def fX9_remember_130  (M : Mem) (h0 : Nat) (x1 : Int32) (x2 : Int32) (x3 : Int32) : Option Mem :=
  (zgR M 9 40 h0).bind (fun v131 => (zgI M 9 39 h0).bind (fun v135 => (zsZ M v131 v135 x1).bind (fun M139 => (zgR M139 9 41 h0).bind (fun v141 => (zgI M139 9 39 h0).bind (fun v145 => (zsI M139 v141 v145 x2).bind (fun M149 => (zgR M149 9 42 h0).bind (fun v151 => (zgI M149 9 39 h0).bind (fun v155 => (zsI M149 v151 v155 x3).bind (fun M159 => fX9_remember_163L  zFU M159 h0 x3 (0 : Int32))))))))))
def fX9_remember_22  (k22 : Mem → Nat → Int32 → Int32 → Int32 → Int32 → Option Mem) (M : Mem) (h0 : Nat) (x1 : Int32) (x2 : Int32) (x3 : Int32) (x4 : Int32) : Option Mem :=
  (zgI M 9 39 h0).bind (fun v25 => if v25 ≤ x4 then (fX9_remember_130  M h0 x1 x2 x3) else ((zgR M 9 40 h0).bind (fun v32 => (zgR M 9 40 h0).bind (fun v38 => (zaI M 12 v38 (x4 + (1 : Int32))).bind (fun v45 => (zsZ M v32 x4 v45).bind (fun M46 => (zgR M46 9 41 h0).bind (fun v48 => (zgR M46 9 41 h0).bind (fun v54 => (zaI M46 11 v54 (x4 + (1 : Int32))).bind (fun v61 => (zsI M46 v48 x4 v61).bind (fun M62 => (zgR M62 9 42 h0).bind (fun v64 => (zgR M62 9 42 h0).bind (fun v70 => (zaI M62 11 v70 (x4 + (1 : Int32))).bind (fun v77 => (zsI M62 v64 x4 v77).bind (fun M78 => fX9_remember_82L k22 zFU M78 h0 x1 x2 x3 x4 (0 : Int32)))))))))))))))
def fX9_remember_22L  (n : Nat) : Mem → Nat → Int32 → Int32 → Int32 → Int32 → Option Mem := zit (fun _ _ _ _ _ _ => none) (fX9_remember_22 ) n
def fX9_remember (M0 : Mem) (p0 : Nat) (p1 : Int32) (p2 : Int32) (p3 : Int32) : Option Mem :=
  (zgI M0 9 39 p0).bind (fun v1 => if v1 = (30 : Int32) then ((zgI M0 9 39 p0).bind (fun v11 => (zpI M0 9 39 p0 (v11 - (1 : Int32))).bind (fun M16 => fX9_remember_22L  zFU M16 p0 p1 p2 p3 (0 : Int32)))) else (fX9_remember_130  M0 p0 p1 p2 p3))
def fX9_insert (M0 : Mem) (p0 : Nat) (p1 : Int32) (p2 : Int32) : Option (Int32 × Mem) :=
  (zck M0 9 p0).bind (fun u2 => (fX9_noPosition M0 p0 p1).bind (fun r2 => if r2.1 = 0 then ((fX9_in p2 (32 : Int32) (126 : Int32)).bind (fun v15 => if v15 = 0 then (some ((-2 : Int32), r2.2)) else ((zgI r2.2 9 31 p0).bind (fun v25 => if v25 = (100 : Int32) then (some ((-3 : Int32), r2.2)) else ((zgR r2.2 9 38 p0).bind (fun v37 => (zsC r2.2 v37 (0 : Int32) p2).bind (fun M42 => (zck M42 9 p0).bind (fun u47 => (fX9_remember M42 p0 (1 : Int32) p1 (1 : Int32)).bind (fun M47 => (zpI M47 9 44 p0 (0 : Int32)).bind (fun M52 => (zck M52 9 p0).bind (fun u58 => (fX9_putIn M52 p0 p1 (1 : Int32)).bind (fun M58 => (zgI M58 9 31 p0).bind (fun v62 => some (v62, M58)))))))))))))) else (some ((-1 : Int32), r2.2))))
def fX9_erase_35  (k35 : Mem → Nat → Int32 → Int32 → Int32 → Option (Int32 × Mem)) (M : Mem) (h0 : Nat) (x1 : Int32) (x2 : Int32) (x3 : Int32) : Option (Int32 × Mem) :=
  if x2 ≤ x3 then ((zck M 9 h0).bind (fun u64 => (fX9_remember M h0 (0 : Int32) x1 x2).bind (fun M64 => (zpI M64 9 44 h0 (0 : Int32)).bind (fun M69 => (zck M69 9 h0).bind (fun u75 => (fX9_takeOut M69 h0 x1 x2).bind (fun M75 => (zgI M75 9 31 h0).bind (fun v79 => some (v79, M75)))))))) else ((zgR M 9 38 h0).bind (fun v41 => (zgR M 9 32 h0).bind (fun v46 => (zaI M 10 v46 (x1 + x3)).bind (fun v52 => (zsC M v41 x3 v52).bind (fun M53 => zlt (x3 + (1 : Int32)) (fun x3_54 => k35 M53 h0 x1 x2 x3_54))))))
def fX9_erase_35L  (n : Nat) : Mem → Nat → Int32 → Int32 → Int32 → Option (Int32 × Mem) := zit (fun _ _ _ _ _ => none) (fX9_erase_35 ) n
def fX9_erase (M0 : Mem) (p0 : Nat) (p1 : Int32) (p2 : Int32) : Option (Int32 × Mem) :=
  (zgI M0 9 31 p0).bind (fun v3 => (fX9_in p1 (0 : Int32) (v3 - (1 : Int32))).bind (fun v8 => if v8 = 0 then (some ((-1 : Int32), M0)) else ((zgI M0 9 31 p0).bind (fun v19 => (fX9_in p2 (1 : Int32) (v19 - p1)).bind (fun v24 => if v24 = 0 then (some ((-2 : Int32), M0)) else (fX9_erase_35L  zFU M0 p0 p1 p2 (0 : Int32)))))))
def fX9_carryOut (M0 : Mem) (p0 : Nat) (p1 : Int32) (p2 : Int32) (p3 : Int32) : Option Mem :=
  if p1 = 0 then ((zck M0 9 p0).bind (fun u16 => (fX9_takeOut M0 p0 p2 p3).bind (fun M16 => some M16))) else ((zck M0 9 p0).bind (fun u7 => (fX9_putIn M0 p0 p2 p3).bind (fun M7 => some M7)))
def fX9_undo_147  (M : Mem) (h0 : Nat) (x1 : Int32) (x2 : Int32) (g0 : Nat) (y1 : Int32) : Option (Int32 × Mem) :=
  (zgR M 9 41 h0).bind (fun v148 => (zaI M 11 v148 x1).bind (fun v152 => (zck M 9 g0).bind (fun u154 => (fX9_carryOut M g0 y1 v152 x2).bind (fun M154 => (zgI M154 9 39 h0).bind (fun v158 => some (v158, M154))))))
def fX9_undo_34  (k34 : Mem → Nat → Int32 → Int32 → Int32 → Option (Int32 × Mem)) (M : Mem) (h0 : Nat) (x1 : Int32) (x2 : Int32) (x3 : Int32) : Option (Int32 × Mem) :=
  if x2 ≤ x3 then ((zgR M 9 45 h0).bind (fun v83 => (zgI M 9 44 h0).bind (fun v87 => (zgR M 9 40 h0).bind (fun v91 => (zaI M 12 v91 x1).bind (fun v95 => (zsZ M v83 v87 v95).bind (fun M96 => (zgR M96 9 46 h0).bind (fun v98 => (zgI M96 9 44 h0).bind (fun v102 => (zgR M96 9 41 h0).bind (fun v106 => (zaI M96 11 v106 x1).bind (fun v110 => (zsI M96 v98 v102 v110).bind (fun M111 => (zgR M111 9 47 h0).bind (fun v113 => (zgI M111 9 44 h0).bind (fun v117 => (zsI M111 v113 v117 x2).bind (fun M121 => (zgI M121 9 44 h0).bind (fun v124 => (zpI M121 9 44 h0 (v124 + (1 : Int32))).bind (fun M129 => (zgR M129 9 40 h0).bind (fun v134 => (zaI M129 12 v134 x1).bind (fun v138 => if v138 = 0 then (fX9_undo_147  M129 h0 x1 x2 h0 (1 : Int32)) else (fX9_undo_147  M129 h0 x1 x2 h0 (0 : Int32)))))))))))))))))))) else ((zgR M 9 38 h0).bind (fun v40 => (zgR M 9 43 h0).bind (fun v45 => (zaI M 10 v45 (((100 : Int32) * x1) + x3)).bind (fun v54 => (zsC M v40 x3 v54).bind (fun M55 => (zgR M55 9 48 h0).bind (fun v57 => (zgI M55 9 44 h0).bind (fun v63 => (zgR M55 9 38 h0).bind (fun v70 => (zaI M55 10 v70 x3).bind (fun v74 => (zsC M55 v57 (((100 : Int32) * v63) + x3) v74).bind (fun M75 => zlt (x3 + (1 : Int32)) (fun x3_76 => k34 M75 h0 x1 x2 x3_76)))))))))))
def fX9_undo_34L  (n : Nat) : Mem → Nat → Int32 → Int32 → Int32 → Option (Int32 × Mem) := zit (fun _ _ _ _ _ => none) (fX9_undo_34 ) n
def fX9_undo (M0 : Mem) (p0 : Nat) : Option (Int32 × Mem) :=
  (zgI M0 9 39 p0).bind (fun v1 => if v1 = 0 then (some ((-5 : Int32), M0)) else ((zgI M0 9 39 p0).bind (fun v12 => (zpI M0 9 39 p0 (v12 - (1 : Int32))).bind (fun M17 => (zgI M17 9 39 p0).bind (fun v21 => (zgR M17 9 42 p0).bind (fun v26 => (zaI M17 11 v26 v21).bind (fun v30 => fX9_undo_34L  zFU M17 p0 v21 v30 (0 : Int32))))))))
def fX9_redo_34  (k34 : Mem → Nat → Int32 → Int32 → Int32 → Option (Int32 × Mem)) (M : Mem) (h0 : Nat) (x1 : Int32) (x2 : Int32) (x3 : Int32) : Option (Int32 × Mem) :=
  if x2 ≤ x3 then ((zgR M 9 45 h0).bind (fun v64 => (zaI M 12 v64 x1).bind (fun v68 => (zgR M 9 46 h0).bind (fun v70 => (zaI M 11 v70 x1).bind (fun v74 => (zck M 9 h0).bind (fun u76 => (fX9_remember M h0 v68 v74 x2).bind (fun M76 => (zgR M76 9 45 h0).bind (fun v81 => (zaI M76 12 v81 x1).bind (fun v85 => (zgR M76 9 46 h0).bind (fun v87 => (zaI M76 11 v87 x1).bind (fun v91 => (zck M76 9 h0).bind (fun u93 => (fX9_carryOut M76 h0 v85 v91 x2).bind (fun M93 => (zgI M93 9 44 h0).bind (fun v97 => some (v97, M93))))))))))))))) else ((zgR M 9 38 h0).bind (fun v40 => (zgR M 9 48 h0).bind (fun v45 => (zaI M 10 v45 (((100 : Int32) * x1) + x3)).bind (fun v54 => (zsC M v40 x3 v54).bind (fun M55 => zlt (x3 + (1 : Int32)) (fun x3_56 => k34 M55 h0 x1 x2 x3_56))))))
def fX9_redo_34L  (n : Nat) : Mem → Nat → Int32 → Int32 → Int32 → Option (Int32 × Mem) := zit (fun _ _ _ _ _ => none) (fX9_redo_34 ) n
def fX9_redo (M0 : Mem) (p0 : Nat) : Option (Int32 × Mem) :=
  (zgI M0 9 44 p0).bind (fun v1 => if v1 = 0 then (some ((-5 : Int32), M0)) else ((zgI M0 9 44 p0).bind (fun v12 => (zpI M0 9 44 p0 (v12 - (1 : Int32))).bind (fun M17 => (zgI M17 9 44 p0).bind (fun v21 => (zgR M17 9 47 p0).bind (fun v26 => (zaI M17 11 v26 v21).bind (fun v30 => fX9_redo_34L  zFU M17 p0 v21 v30 (0 : Int32))))))))
def fX9_charAt (M0 : Mem) (p0 : Nat) (p1 : Int32) : Option (Int32 × Mem) :=
  (zgI M0 9 31 p0).bind (fun v3 => (fX9_in p1 (0 : Int32) (v3 - (1 : Int32))).bind (fun v8 => if v8 = 0 then (some ((-1 : Int32), M0)) else ((zgR M0 9 32 p0).bind (fun v15 => (zaI M0 10 v15 p1).bind (fun v19 => some (v19, M0))))))
def fX9_exceptionBy_68 (k31 : Mem → Nat → Int32 → Int32 → Int32 → Option (Int32 × Mem)) (M : Mem) (h0 : Nat) (x1 : Int32) (x3 : Int32) (y0 : Int32) : Option (Int32 × Mem) :=
  zlt (x3 + (1 : Int32)) (fun x3_69 => k31 M h0 x1 y0 x3_69)
def fX9_exceptionBy_75 (k2 : Mem → Nat → Int32 → Option (Int32 × Mem)) (M : Mem) (h0 : Nat) (x1 : Int32) (x2 : Int32) : Option (Int32 × Mem) :=
  if x2 = 0 then (zlt (x1 + (1 : Int32)) (fun x1_81 => k2 M h0 x1_81)) else (some (x1, M))
def fX9_exceptionBy_31 (k2 : Mem → Nat → Int32 → Option (Int32 × Mem)) (k31 : Mem → Nat → Int32 → Int32 → Int32 → Option (Int32 × Mem)) (M : Mem) (h0 : Nat) (x1 : Int32) (x2 : Int32) (x3 : Int32) : Option (Int32 × Mem) :=
  (zgI M 9 1 h0).bind (fun v33 => if v33 ≤ x3 then (fX9_exceptionBy_75 k2 M h0 x1 x2) else (if x2 = 0 then (fX9_exceptionBy_75 k2 M h0 x1 x2) else ((zgR M 9 51 h0).bind (fun v44 => (zaI M 10 v44 (((8 : Int32) * x1) + x3)).bind (fun v53 => (zgR M 9 2 h0).bind (fun v55 => (zaI M 10 v55 x3).bind (fun v59 => if v53 = v59 then (fX9_exceptionBy_68 k31 M h0 x1 x3 (1 : Int32)) else (fX9_exceptionBy_68 k31 M h0 x1 x3 (0 : Int32)))))))))
def fX9_exceptionBy_31L (k2 : Mem → Nat → Int32 → Option (Int32 × Mem)) (n : Nat) : Mem → Nat → Int32 → Int32 → Int32 → Option (Int32 × Mem) := zit (fun _ _ _ _ _ => none) (fX9_exceptionBy_31 k2) n
def fX9_exceptionBy_28 (k2 : Mem → Nat → Int32 → Option (Int32 × Mem)) (M : Mem) (h0 : Nat) (x1 : Int32) (y0 : Int32) : Option (Int32 × Mem) :=
  fX9_exceptionBy_31L k2 zFU M h0 x1 y0 (0 : Int32)
def fX9_exceptionBy_2  (k2 : Mem → Nat → Int32 → Option (Int32 × Mem)) (M : Mem) (h0 : Nat) (x1 : Int32) : Option (Int32 × Mem) :=
  (zgI M 9 49 h0).bind (fun v4 => if v4 ≤ x1 then (some ((-1 : Int32), M)) else ((zgR M 9 50 h0).bind (fun v11 => (zaI M 11 v11 x1).bind (fun v15 => (zgI M 9 1 h0).bind (fun v17 => if v15 = v17 then (fX9_exceptionBy_28 k2 M h0 x1 (1 : Int32)) else (fX9_exceptionBy_28 k2 M h0 x1 (0 : Int32)))))))
def fX9_exceptionBy_2L  (n : Nat) : Mem → Nat → Int32 → Option (Int32 × Mem) := zit (fun _ _ _ => none) (fX9_exceptionBy_2 ) n
def fX9_exceptionBy (M0 : Mem) (p0 : Nat) : Option (Int32 × Mem) :=
  fX9_exceptionBy_2L  zFU M0 p0 (0 : Int32)
def fX9_addException_46 (k13 : Mem → Nat → Int32 → Int32 → Option (Int32 × Mem)) (M : Mem) (h0 : Nat) (x2 : Int32) (y0 : Int32) : Option (Int32 × Mem) :=
  zlt (x2 + (1 : Int32)) (fun x2_47 => k13 M h0 y0 x2_47)
def fX9_addException_45 (k13 : Mem → Nat → Int32 → Int32 → Option (Int32 × Mem)) (M : Mem) (h0 : Nat) (x2 : Int32) : Option (Int32 × Mem) :=
  fX9_addException_46 k13 M h0 x2 (0 : Int32)
def fX9_addException_84  (k84 : Mem → Nat → Int32 → Option (Int32 × Mem)) (M : Mem) (h0 : Nat) (x2 : Int32) : Option (Int32 × Mem) :=
  (zgI M 9 1 h0).bind (fun v86 => if v86 ≤ x2 then ((zgR M 9 50 h0).bind (fun v119 => (zgI M 9 49 h0).bind (fun v123 => (zgI M 9 1 h0).bind (fun v127 => (zsI M v119 v123 v127).bind (fun M130 => (zgI M130 9 49 h0).bind (fun v133 => (zpI M130 9 49 h0 (v133 + (1 : Int32))).bind (fun M138 => (zgI M138 9 49 h0).bind (fun v142 => some (v142, M138))))))))) else ((zgR M 9 51 h0).bind (fun v93 => (zgI M 9 49 h0).bind (fun v99 => (zgR M 9 2 h0).bind (fun v106 => (zaI M 10 v106 x2).bind (fun v110 => (zsC M v93 (((8 : Int32) * v99) + x2) v110).bind (fun M111 => zlt (x2 + (1 : Int32)) (fun x2_112 => k84 M111 h0 x2_112))))))))
def fX9_addException_84L  (n : Nat) : Mem → Nat → Int32 → Option (Int32 × Mem) := zit (fun _ _ _ => none) (fX9_addException_84 ) n
def fX9_addException_13  (k13 : Mem → Nat → Int32 → Int32 → Option (Int32 × Mem)) (M : Mem) (h0 : Nat) (x1 : Int32) (x2 : Int32) : Option (Int32 × Mem) :=
  (zgI M 9 1 h0).bind (fun v15 => if v15 ≤ x2 then (if x1 = 0 then (some ((-2 : Int32), M)) else ((zck M 9 h0).bind (fun u61 => (fX9_exceptionBy M h0 ).bind (fun r61 => if r61.1 < 0 then ((zgI r61.2 9 49 h0).bind (fun v71 => if v71 = (10 : Int32) then (some ((-3 : Int32), r61.2)) else (fX9_addException_84L  zFU r61.2 h0 (0 : Int32)))) else (some ((-4 : Int32), r61.2)))))) else (if x1 = 0 then (fX9_addException_45 k13 M h0 x2) else ((zgR M 9 2 h0).bind (fun v26 => (zaI M 10 v26 x2).bind (fun v30 => (fX9_in v30 (32 : Int32) (126 : Int32)).bind (fun v35 => if v35 = 0 then (fX9_addException_45 k13 M h0 x2) else (fX9_addException_46 k13 M h0 x2 (1 : Int32))))))))
def fX9_addException_13L  (n : Nat) : Mem → Nat → Int32 → Int32 → Option (Int32 × Mem) := zit (fun _ _ _ _ => none) (fX9_addException_13 ) n
def fX9_addException (M0 : Mem) (p0 : Nat) : Option (Int32 × Mem) :=
  (zgI M0 9 1 p0).bind (fun v1 => (fX9_in v1 (1 : Int32) (8 : Int32)).bind (fun v7 => fX9_addException_13L  zFU M0 p0 v7 (0 : Int32)))
def fX9_removeException_48 (k24 : Mem → Nat → Int32 → Option (Int32 × Mem)) (k48 : Mem → Nat → Int32 → Int32 → Option (Int32 × Mem)) (M : Mem) (h0 : Nat) (x2 : Int32) (x3 : Int32) : Option (Int32 × Mem) :=
  if (8 : Int32) ≤ x3 then (zlt (x2 + (1 : Int32)) (fun x2_85 => k24 M h0 x2_85)) else ((zgR M 9 51 h0).bind (fun v55 => (zgR M 9 51 h0).bind (fun v65 => (zaI M 10 v65 ((((8 : Int32) * x2) + (8 : Int32)) + x3)).bind (fun v77 => (zsC M v55 (((8 : Int32) * x2) + x3) v77).bind (fun M78 => zlt (x3 + (1 : Int32)) (fun x3_79 => k48 M78 h0 x2 x3_79))))))
def fX9_removeException_48L (k24 : Mem → Nat → Int32 → Option (Int32 × Mem)) (n : Nat) : Mem → Nat → Int32 → Int32 → Option (Int32 × Mem) := zit (fun _ _ _ _ => none) (fX9_removeException_48 k24) n
def fX9_removeException_24  (k24 : Mem → Nat → Int32 → Option (Int32 × Mem)) (M : Mem) (h0 : Nat) (x2 : Int32) : Option (Int32 × Mem) :=
  (zgI M 9 49 h0).bind (fun v26 => if v26 ≤ x2 then ((zgI M 9 49 h0).bind (fun v92 => some (v92, M))) else ((zgR M 9 50 h0).bind (fun v33 => (zgR M 9 50 h0).bind (fun v38 => (zaI M 11 v38 (x2 + (1 : Int32))).bind (fun v44 => (zsI M v33 x2 v44).bind (fun M45 => fX9_removeException_48L k24 zFU M45 h0 x2 (0 : Int32)))))))
def fX9_removeException_24L  (n : Nat) : Mem → Nat → Int32 → Option (Int32 × Mem) := zit (fun _ _ _ => none) (fX9_removeException_24 ) n
def fX9_removeException (M0 : Mem) (p0 : Nat) : Option (Int32 × Mem) :=
  (zck M0 9 p0).bind (fun u1 => (fX9_exceptionBy M0 p0 ).bind (fun r1 => if 0 ≤ r1.1 then ((zgI r1.2 9 49 p0).bind (fun v14 => (zpI r1.2 9 49 p0 (v14 - (1 : Int32))).bind (fun M19 => fX9_removeException_24L  zFU M19 p0 r1.1))) else (some ((-5 : Int32), r1.2))))
def fX9_isExceptionBefore_100 (k60 : Mem → Nat → Int32 → Int32 → Int32 → Int32 → Int32 → Option (Int32 × Mem)) (M : Mem) (h0 : Nat) (x1 : Int32) (x2 : Int32) (x3 : Int32) (x5 : Int32) (y0 : Int32) : Option (Int32 × Mem) :=
  zlt (x5 + (1 : Int32)) (fun x5_102 => k60 M h0 x1 x2 x3 y0 x5_102)
def fX9_isExceptionBefore_108 (k30 : Mem → Nat → Int32 → Int32 → Int32 → Option (Int32 × Mem)) (M : Mem) (h0 : Nat) (x1 : Int32) (x2 : Int32) (x3 : Int32) (x4 : Int32) : Option (Int32 × Mem) :=
  if x4 = 0 then (zlt (x3 + (1 : Int32)) (fun x3_115 => k30 M h0 x1 x2 x3_115)) else (zrt .boolean (1 : Int32) M)
def fX9_isExceptionBefore_60 (k30 : Mem → Nat → Int32 → Int32 → Int32 → Option (Int32 × Mem)) (k60 : Mem → Nat → Int32 → Int32 → Int32 → Int32 → Int32 → Option (Int32 × Mem)) (M : Mem) (h0 : Nat) (x1 : Int32) (x2 : Int32) (x3 : Int32) (x4 : Int32) (x5 : Int32) : Option (Int32 × Mem) :=
  if x1 ≤ x5 then (fX9_isExceptionBefore_108 k30 M h0 x1 x2 x3 x4) else (if x4 = 0 then (fX9_isExceptionBefore_108 k30 M h0 x1 x2 x3 x4) else ((zgR M 9 51 h0).bind (fun v72 => (zaI M 10 v72 ((((8 : Int32) * x3) + x5) - x2)).bind (fun v84 => (zgR M 9 32 h0).bind (fun v86 => (zaI M 10 v86 x5).bind (fun v91 => if v84 = v91 then (fX9_isExceptionBefore_100 k60 M h0 x1 x2 x3 x5 (1 : Int32)) else (fX9_isExceptionBefore_100 k60 M h0 x1 x2 x3 x5 (0 : Int32))))))))
def fX9_isExceptionBefore_60L (k30 : Mem → Nat → Int32 → Int32 → Int32 → Option (Int32 × Mem)) (n : Nat) : Mem → Nat → Int32 → Int32 → Int32 → Int32 → Int32 → Option (Int32 × Mem) := zit (fun _ _ _ _ _ _ _ => none) (fX9_isExceptionBefore_60 k30) n
def fX9_isExceptionBefore_55 (k30 : Mem → Nat → Int32 → Int32 → Int32 → Option (Int32 × Mem)) (M : Mem) (h0 : Nat) (x1 : Int32) (x2 : Int32) (x3 : Int32) (y0 : Int32) : Option (Int32 × Mem) :=
  fX9_isExceptionBefore_60L k30 zFU M h0 x1 x2 x3 y0 x2
def fX9_isExceptionBefore_30  (k30 : Mem → Nat → Int32 → Int32 → Int32 → Option (Int32 × Mem)) (M : Mem) (h0 : Nat) (x1 : Int32) (x2 : Int32) (x3 : Int32) : Option (Int32 × Mem) :=
  (zgI M 9 49 h0).bind (fun v32 => if v32 ≤ x3 then (zrt .boolean (0 : Int32) M) else ((zgR M 9 50 h0).bind (fun v39 => (zaI M 11 v39 x3).bind (fun v43 => if v43 = (x1 - x2) then (fX9_isExceptionBefore_55 k30 M h0 x1 x2 x3 (1 : Int32)) else (fX9_isExceptionBefore_55 k30 M h0 x1 x2 x3 (0 : Int32))))))
def fX9_isExceptionBefore_30L  (n : Nat) : Mem → Nat → Int32 → Int32 → Int32 → Option (Int32 × Mem) := zit (fun _ _ _ _ _ => none) (fX9_isExceptionBefore_30 ) n
def fX9_isExceptionBefore_28  (M : Mem) (h0 : Nat) (x1 : Int32) (x2 : Int32) : Option (Int32 × Mem) :=
  fX9_isExceptionBefore_30L  zFU M h0 x1 x2 (0 : Int32)
def fX9_isExceptionBefore_2  (k2 : Mem → Nat → Int32 → Int32 → Option (Int32 × Mem)) (M : Mem) (h0 : Nat) (x1 : Int32) (x2 : Int32) : Option (Int32 × Mem) :=
  if x2 ≤ 0 then (fX9_isExceptionBefore_28  M h0 x1 x2) else ((zgR M 9 0 h0).bind (fun v7 => (zgR M 9 32 h0).bind (fun v11 => (zaI M 10 v11 (x2 - (1 : Int32))).bind (fun v17 => (zaI M 11 v7 v17).bind (fun v18 => if v18 = 0 then (zlt (x2 + (-1 : Int32)) (fun x2_22 => k2 M h0 x1 x2_22)) else (fX9_isExceptionBefore_28  M h0 x1 x2))))))
def fX9_isExceptionBefore_2L  (n : Nat) : Mem → Nat → Int32 → Int32 → Option (Int32 × Mem) := zit (fun _ _ _ _ => none) (fX9_isExceptionBefore_2 ) n
def fX9_isExceptionBefore (M0 : Mem) (p0 : Nat) (p1 : Int32) : Option (Int32 × Mem) :=
  fX9_isExceptionBefore_2L  zFU M0 p0 p1 p1
def fX9_isSuppressed_93 (k27 : Mem → Nat → Int32 → Int32 → Int32 → Option (Int32 × Mem)) (M : Mem) (h0 : Nat) (x3 : Int32) (x4 : Int32) (y0 : Int32) : Option (Int32 × Mem) :=
  zlt (x3 + (-1 : Int32)) (fun x3_95 => k27 M h0 x3_95 x4 y0)
def fX9_isSuppressed_69 (k27 : Mem → Nat → Int32 → Int32 → Int32 → Option (Int32 × Mem)) (M : Mem) (h0 : Nat) (x3 : Int32) (y0 : Int32) : Option (Int32 × Mem) :=
  (zgR M 9 0 h0).bind (fun v72 => (zgR M 9 32 h0).bind (fun v76 => (zaI M 10 v76 (x3 - (1 : Int32))).bind (fun v82 => (zaI M 11 v72 v82).bind (fun v83 => if v83 = (2 : Int32) then (fX9_isSuppressed_93 k27 M h0 x3 y0 (1 : Int32)) else (fX9_isSuppressed_93 k27 M h0 x3 y0 (0 : Int32))))))
def fX9_isSuppressed_68 (k27 : Mem → Nat → Int32 → Int32 → Int32 → Option (Int32 × Mem)) (M : Mem) (h0 : Nat) (x3 : Int32) : Option (Int32 × Mem) :=
  fX9_isSuppressed_69 k27 M h0 x3 (0 : Int32)
def fX9_isSuppressed_27  (k27 : Mem → Nat → Int32 → Int32 → Int32 → Option (Int32 × Mem)) (M : Mem) (h0 : Nat) (x3 : Int32) (x4 : Int32) (x5 : Int32) : Option (Int32 × Mem) :=
  if x5 = 0 then (zrt .boolean x4 M) else (if x4 = 0 then (if x3 ≤ 0 then (zrt .boolean x4 M) else ((zgR M 9 32 h0).bind (fun v42 => (zaI M 10 v42 (x3 - (1 : Int32))).bind (fun v48 => if v48 = (46 : Int32) then ((zck M 9 h0).bind (fun u58 => (fX9_isExceptionBefore M h0 (x3 - (1 : Int32))).bind (fun r58 => if r58.1 = 0 then (fX9_isSuppressed_68 k27 r58.2 h0 x3) else (fX9_isSuppressed_69 k27 r58.2 h0 x3 (1 : Int32))))) else (fX9_isSuppressed_68 k27 M h0 x3))))) else (zrt .boolean x4 M))
def fX9_isSuppressed_27L  (n : Nat) : Mem → Nat → Int32 → Int32 → Int32 → Option (Int32 × Mem) := zit (fun _ _ _ _ _ => none) (fX9_isSuppressed_27 ) n
def fX9_isSuppressed (M0 : Mem) (p0 : Nat) (p1 : Int32) (p2 : Int32) : Option (Int32 × Mem) :=
  if p1 = (2 : Int32) then (if p2 = 0 then (zrt .boolean (0 : Int32) M0) else ((zgI M0 9 31 p0).bind (fun v11 => if p2 = v11 then (zrt .boolean (0 : Int32) M0) else (fX9_isSuppressed_27L  zFU M0 p0 p2 (0 : Int32) (1 : Int32))))) else (zrt .boolean (0 : Int32) M0)
def fX9_value (M0 : Mem) (p0 : Nat) (p1 : Int32) : Option (Int32 × Mem) :=
  if p1 = 0 then ((zgI M0 9 31 p0).bind (fun v5 => some (v5, M0))) else (if p1 = (1 : Int32) then ((zgI M0 9 1 p0).bind (fun v17 => some (v17, M0))) else (if p1 = (2 : Int32) then ((zgI M0 9 49 p0).bind (fun v29 => some (v29, M0))) else (if p1 = (3 : Int32) then ((zgI M0 9 39 p0).bind (fun v41 => some (v41, M0))) else (if p1 = (4 : Int32) then ((zgI M0 9 44 p0).bind (fun v53 => some (v53, M0))) else (some ((-2 : Int32), M0))))))
def fX9_barred (M0 : Mem) (p0 : Nat) (p1 : Int32) (p2 : Int32) : Option (Int32 × Mem) :=
  (fX9_noKind p1).bind (fun v1 => if v1 = 0 then ((zck M0 9 p0).bind (fun u14 => (fX9_noPosition M0 p0 p2).bind (fun r14 => if r14.1 = 0 then (some ((0 : Int32), r14.2)) else (some ((-1 : Int32), r14.2))))) else (some ((-2 : Int32), M0)))
def fX9_boundaryAt_16  (k16 : Mem → Nat → Int32 → Int32 → Int32 → Option (Int32 × Mem)) (M : Mem) (h0 : Nat) (x1 : Int32) (x2 : Int32) (x4 : Int32) : Option (Int32 × Mem) :=
  (zgR M 9 33 h0).bind (fun v19 => (zaI M 11 v19 x1).bind (fun v23 => if v23 ≤ x4 then (some ((0 : Int32), M)) else ((zck M 9 h0).bind (fun u31 => (fX9_raw M h0 x1 x4).bind (fun r31 => if r31.1 = x2 then ((zck r31.2 9 h0).bind (fun u41 => (fX9_isSuppressed r31.2 h0 x1 x2).bind (fun r41 => if r41.1 = 0 then (some ((1 : Int32), r41.2)) else (some ((2 : Int32), r41.2))))) else (zlt (x4 + (1 : Int32)) (fun x4_53 => k16 r31.2 h0 x1 x2 x4_53)))))))
def fX9_boundaryAt_16L  (n : Nat) : Mem → Nat → Int32 → Int32 → Int32 → Option (Int32 × Mem) := zit (fun _ _ _ _ _ => none) (fX9_boundaryAt_16 ) n
def fX9_boundaryAt (M0 : Mem) (p0 : Nat) (p1 : Int32) (p2 : Int32) : Option (Int32 × Mem) :=
  (zck M0 9 p0).bind (fun u3 => (fX9_barred M0 p0 p1 p2).bind (fun r3 => if 0 ≤ r3.1 then (fX9_boundaryAt_16L  zFU r3.2 p0 p1 p2 (0 : Int32)) else (some (r3.1, r3.2))))
def fX9_next_61 (k16 : Mem → Nat → Int32 → Int32 → Int32 → Option (Int32 × Mem)) (M : Mem) (h0 : Nat) (x1 : Int32) (x2 : Int32) (x4 : Int32) : Option (Int32 × Mem) :=
  zlt (x4 + (1 : Int32)) (fun x4_61 => k16 M h0 x1 x2 x4_61)
def fX9_next_16  (k16 : Mem → Nat → Int32 → Int32 → Int32 → Option (Int32 × Mem)) (M : Mem) (h0 : Nat) (x1 : Int32) (x2 : Int32) (x4 : Int32) : Option (Int32 × Mem) :=
  (zgR M 9 33 h0).bind (fun v19 => (zaI M 11 v19 x1).bind (fun v23 => if v23 ≤ x4 then (some ((-5 : Int32), M)) else ((zck M 9 h0).bind (fun u31 => (fX9_raw M h0 x1 x4).bind (fun r31 => if r31.1 ≤ x2 then (fX9_next_61 k16 r31.2 h0 x1 x2 x4) else ((zck r31.2 9 h0).bind (fun u44 => (fX9_raw r31.2 h0 x1 x4).bind (fun r44 => (zck r44.2 9 h0).bind (fun u47 => (fX9_isSuppressed r44.2 h0 x1 r44.1).bind (fun r47 => if r47.1 = 0 then ((zck r47.2 9 h0).bind (fun u57 => (fX9_raw r47.2 h0 x1 x4).bind (fun r57 => some (r57.1, r57.2)))) else (fX9_next_61 k16 r47.2 h0 x1 x2 x4)))))))))))
def fX9_next_16L  (n : Nat) : Mem → Nat → Int32 → Int32 → Int32 → Option (Int32 × Mem) := zit (fun _ _ _ _ _ => none) (fX9_next_16 ) n
def fX9_next (M0 : Mem) (p0 : Nat) (p1 : Int32) (p2 : Int32) : Option (Int32 × Mem) :=
  (zck M0 9 p0).bind (fun u3 => (fX9_barred M0 p0 p1 p2).bind (fun r3 => if 0 ≤ r3.1 then (fX9_next_16L  zFU r3.2 p0 p1 p2 (0 : Int32)) else (some (r3.1, r3.2))))
def fX9_previous_62 (k23 : Mem → Nat → Int32 → Int32 → Int32 → Option (Int32 × Mem)) (M : Mem) (h0 : Nat) (x1 : Int32) (x2 : Int32) (x4 : Int32) : Option (Int32 × Mem) :=
  zlt (x4 + (-1 : Int32)) (fun x4_62 => k23 M h0 x1 x2 x4_62)
def fX9_previous_23  (k23 : Mem → Nat → Int32 → Int32 → Int32 → Option (Int32 × Mem)) (M : Mem) (h0 : Nat) (x1 : Int32) (x2 : Int32) (x4 : Int32) : Option (Int32 × Mem) :=
  if x4 < 0 then (some ((-5 : Int32), M)) else ((zck M 9 h0).bind (fun u32 => (fX9_raw M h0 x1 x4).bind (fun r32 => if x2 ≤ r32.1 then (fX9_previous_62 k23 r32.2 h0 x1 x2 x4) else ((zck r32.2 9 h0).bind (fun u45 => (fX9_raw r32.2 h0 x1 x4).bind (fun r45 => (zck r45.2 9 h0).bind (fun u48 => (fX9_isSuppressed r45.2 h0 x1 r45.1).bind (fun r48 => if r48.1 = 0 then ((zck r48.2 9 h0).bind (fun u58 => (fX9_raw r48.2 h0 x1 x4).bind (fun r58 => some (r58.1, r58.2)))) else (fX9_previous_62 k23 r48.2 h0 x1 x2 x4)))))))))
def fX9_previous_23L  (n : Nat) : Mem → Nat → Int32 → Int32 → Int32 → Option (Int32 × Mem) := zit (fun _ _ _ _ _ => none) (fX9_previous_23 ) n
def fX9_previous (M0 : Mem) (p0 : Nat) (p1 : Int32) (p2 : Int32) : Option (Int32 × Mem) :=
  (zck M0 9 p0).bind (fun u3 => (fX9_barred M0 p0 p1 p2).bind (fun r3 => if 0 ≤ r3.1 then ((zgR r3.2 9 33 p0).bind (fun v14 => (zaI r3.2 11 v14 p1).bind (fun v18 => zlt (v18 - (1 : Int32)) (fun x4_21 => fX9_previous_23L  zFU r3.2 p0 p1 p2 x4_21)))) else (some (r3.1, r3.2))))
def fX9_layBoundaries_56 (k7 : Mem → Nat → Int32 → Int32 → Option Mem) (M : Mem) (h0 : Nat) (x1 : Int32) (x2 : Int32) : Option Mem :=
  zlt (x2 + (1 : Int32)) (fun x2_56 => k7 M h0 x1 x2_56)
def fX9_layBoundaries_7  (k7 : Mem → Nat → Int32 → Int32 → Option Mem) (M : Mem) (h0 : Nat) (x1 : Int32) (x2 : Int32) : Option Mem :=
  (zgR M 9 33 h0).bind (fun v9 => (zaI M 11 v9 x1).bind (fun v13 => if v13 ≤ x2 then (some M) else ((zck M 9 h0).bind (fun u22 => (fX9_raw M h0 x1 x2).bind (fun r22 => (zck r22.2 9 h0).bind (fun u25 => (fX9_isSuppressed r22.2 h0 x1 r22.1).bind (fun r25 => if r25.1 = 0 then ((zgR r25.2 9 53 h0).bind (fun v32 => (zgI r25.2 9 52 h0).bind (fun v36 => (zck r25.2 9 h0).bind (fun u42 => (fX9_raw r25.2 h0 x1 x2).bind (fun r42 => (zsI r42.2 v32 v36 r42.1).bind (fun M45 => (zgI M45 9 52 h0).bind (fun v48 => (zpI M45 9 52 h0 (v48 + (1 : Int32))).bind (fun M53 => fX9_layBoundaries_56 k7 M53 h0 x1 x2)))))))) else (fX9_layBoundaries_56 k7 r25.2 h0 x1 x2))))))))
def fX9_layBoundaries_7L  (n : Nat) : Mem → Nat → Int32 → Int32 → Option Mem := zit (fun _ _ _ _ => none) (fX9_layBoundaries_7 ) n
def fX9_layBoundaries (M0 : Mem) (p0 : Nat) (p1 : Int32) : Option Mem :=
  (zpI M0 9 52 p0 (0 : Int32)).bind (fun M2 => fX9_layBoundaries_7L  zFU M2 p0 p1 (0 : Int32))
def fX9_segmentCount (M0 : Mem) (p0 : Nat) (p1 : Int32) : Option (Int32 × Mem) :=
  (fX9_noKind p1).bind (fun v1 => if v1 = 0 then ((zck M0 9 p0).bind (fun u12 => (fX9_layBoundaries M0 p0 p1).bind (fun M12 => (zgI M12 9 52 p0).bind (fun v16 => some (v16 - (1 : Int32), M12))))) else (some ((-2 : Int32), M0)))
def fX9_segment (M0 : Mem) (p0 : Nat) (p1 : Int32) (p2 : Int32) : Option (Int32 × Mem) :=
  (fX9_noKind p1).bind (fun v1 => if v1 = 0 then (if 0 ≤ p2 then ((zck M0 9 p0).bind (fun u16 => (fX9_layBoundaries M0 p0 p1).bind (fun M16 => (zgI M16 9 52 p0).bind (fun v21 => if (v21 - (1 : Int32)) ≤ p2 then (some ((-5 : Int32), M16)) else ((zgR M16 9 53 p0).bind (fun v30 => (zaI M16 11 v30 p2).bind (fun v34 => some (v34, M16)))))))) else (some ((-2 : Int32), M0))) else (some ((-2 : Int32), M0)))
def fX9_longest_83 (k23 : Mem → Nat → Int32 → Int32 → Int32 → Option (Int32 × Mem)) (M : Mem) (h0 : Nat) (x2 : Int32) (x4 : Int32) (y0 : Int32) : Option (Int32 × Mem) :=
  zlt (x4 + (1 : Int32)) (fun x4_84 => k23 M h0 x2 y0 x4_84)
def fX9_longest_70 (k23 : Mem → Nat → Int32 → Int32 → Int32 → Option (Int32 × Mem)) (M : Mem) (h0 : Nat) (x3 : Int32) (x4 : Int32) (x5 : Int32) (y0 : Int32) : Option (Int32 × Mem) :=
  if x5 ≤ x3 then (fX9_longest_83 k23 M h0 y0 x4 x3) else (fX9_longest_83 k23 M h0 y0 x4 x5)
def fX9_longest_23  (k23 : Mem → Nat → Int32 → Int32 → Int32 → Option (Int32 × Mem)) (M : Mem) (h0 : Nat) (x2 : Int32) (x3 : Int32) (x4 : Int32) : Option (Int32 × Mem) :=
  (zgI M 9 52 h0).bind (fun v26 => if (v26 - (1 : Int32)) ≤ x4 then (some (x2, M)) else ((zgR M 9 53 h0).bind (fun v35 => (zaI M 11 v35 (x4 + (1 : Int32))).bind (fun v42 => (zgR M 9 53 h0).bind (fun v44 => (zaI M 11 v44 x4).bind (fun v49 => zlt (v42 - v49) (fun x5_51 => if x5_51 ≤ x3 then (fX9_longest_70 k23 M h0 x3 x4 x5_51 x2) else ((zgR M 9 53 h0).bind (fun v60 => (zaI M 11 v60 x4).bind (fun v65 => fX9_longest_70 k23 M h0 x3 x4 x5_51 v65))))))))))
def fX9_longest_23L  (n : Nat) : Mem → Nat → Int32 → Int32 → Int32 → Option (Int32 × Mem) := zit (fun _ _ _ _ _ => none) (fX9_longest_23 ) n
def fX9_longest (M0 : Mem) (p0 : Nat) (p1 : Int32) : Option (Int32 × Mem) :=
  (fX9_noKind p1).bind (fun v1 => if v1 = 0 then ((zck M0 9 p0).bind (fun u12 => (fX9_layBoundaries M0 p0 p1).bind (fun M12 => fX9_longest_23L  zFU M12 p0 (-5 : Int32) (0 : Int32) (0 : Int32)))) else (some ((-2 : Int32), M0)))
def fX9_segmentsWith_93 (k53 : Mem → Nat → Int32 → Int32 → Int32 → Int32 → Int32 → Option (Int32 × Mem)) (M : Mem) (h0 : Nat) (x2 : Int32) (x3 : Int32) (x4 : Int32) (x6 : Int32) (y0 : Int32) : Option (Int32 × Mem) :=
  zlt (x6 + (1 : Int32)) (fun x6_95 => k53 M h0 x2 x3 x4 y0 x6_95)
def fX9_segmentsWith_88 (k53 : Mem → Nat → Int32 → Int32 → Int32 → Int32 → Int32 → Option (Int32 × Mem)) (M : Mem) (h0 : Nat) (x2 : Int32) (x3 : Int32) (x4 : Int32) (x6 : Int32) : Option (Int32 × Mem) :=
  fX9_segmentsWith_93 k53 M h0 x2 x3 x4 x6 (1 : Int32)
def fX9_segmentsWith_112 (k30 : Mem → Nat → Int32 → Int32 → Int32 → Option (Int32 × Mem)) (M : Mem) (h0 : Nat) (x2 : Int32) (x4 : Int32) (y0 : Int32) (y1 : Int32) : Option (Int32 × Mem) :=
  zlt (y0 + y1) (fun x3_113 => zlt (x4 + (1 : Int32)) (fun x4_114 => k30 M h0 x2 x3_113 x4_114))
def fX9_segmentsWith_53 (k30 : Mem → Nat → Int32 → Int32 → Int32 → Option (Int32 × Mem)) (k53 : Mem → Nat → Int32 → Int32 → Int32 → Int32 → Int32 → Option (Int32 × Mem)) (M : Mem) (h0 : Nat) (x2 : Int32) (x3 : Int32) (x4 : Int32) (x5 : Int32) (x6 : Int32) : Option (Int32 × Mem) :=
  (zgR M 9 53 h0).bind (fun v56 => (zaI M 11 v56 (x4 + (1 : Int32))).bind (fun v63 => if v63 ≤ x6 then (if x5 = 0 then (fX9_segmentsWith_112 k30 M h0 x2 x4 x3 (0 : Int32)) else (fX9_segmentsWith_112 k30 M h0 x2 x4 x3 (1 : Int32))) else (if x5 = 0 then ((zgR M 9 0 h0).bind (fun v73 => (zgR M 9 32 h0).bind (fun v77 => (zaI M 10 v77 x6).bind (fun v82 => (zaI M 11 v73 v82).bind (fun v83 => if v83 = x2 then (fX9_segmentsWith_88 k53 M h0 x2 x3 x4 x6) else (fX9_segmentsWith_93 k53 M h0 x2 x3 x4 x6 (0 : Int32))))))) else (fX9_segmentsWith_88 k53 M h0 x2 x3 x4 x6))))
def fX9_segmentsWith_53L (k30 : Mem → Nat → Int32 → Int32 → Int32 → Option (Int32 × Mem)) (n : Nat) : Mem → Nat → Int32 → Int32 → Int32 → Int32 → Int32 → Option (Int32 × Mem) := zit (fun _ _ _ _ _ _ _ => none) (fX9_segmentsWith_53 k30) n
def fX9_segmentsWith_30  (k30 : Mem → Nat → Int32 → Int32 → Int32 → Option (Int32 × Mem)) (M : Mem) (h0 : Nat) (x2 : Int32) (x3 : Int32) (x4 : Int32) : Option (Int32 × Mem) :=
  (zgI M 9 52 h0).bind (fun v33 => if (v33 - (1 : Int32)) ≤ x4 then (some (x3, M)) else ((zgR M 9 53 h0).bind (fun v45 => (zaI M 11 v45 x4).bind (fun v50 => fX9_segmentsWith_53L k30 zFU M h0 x2 x3 x4 (0 : Int32) v50))))
def fX9_segmentsWith_30L  (n : Nat) : Mem → Nat → Int32 → Int32 → Int32 → Option (Int32 × Mem) := zit (fun _ _ _ _ _ => none) (fX9_segmentsWith_30 ) n
def fX9_segmentsWith (M0 : Mem) (p0 : Nat) (p1 : Int32) (p2 : Int32) : Option (Int32 × Mem) :=
  (fX9_noKind p1).bind (fun v1 => if v1 = 0 then ((fX9_in p2 (0 : Int32) (11 : Int32)).bind (fun v11 => if v11 = 0 then (some ((-2 : Int32), M0)) else ((zck M0 9 p0).bind (fun u22 => (fX9_layBoundaries M0 p0 p1).bind (fun M22 => fX9_segmentsWith_30L  zFU M22 p0 p2 (0 : Int32) (0 : Int32)))))) else (some ((-2 : Int32), M0)))
def fX9_work (M0 : Mem) (p0 : Nat) (p1 : Int32) : Option (Int32 × Mem) :=
  (fX9_noKind p1).bind (fun v1 => if v1 = 0 then ((zgR M0 9 35 p0).bind (fun v13 => (zaI M0 11 v13 p1).bind (fun v17 => some (v17, M0)))) else (some ((-2 : Int32), M0)))
