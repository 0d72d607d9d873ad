section
variable {l : Launch} {g : qG} {p : Program} {e : Env} {s : State} {m : MethodId} {args : Array Value} {below : List Frame} {meth : Method} {c : Code}
/-! ClosedStreets$Town.hasStreet -/
abbrev rmX5_hasStreet : Room := { frames := 0, cells := 0, slots := 0, locals := 0 }
def F5_hasStreet (o : Nat) (v1 : Int32) (S : qSt) : Int32 := if v1 < 0 then (0) else (if (S o 1) ≤ v1 then (0) else (1))
set_option maxRecDepth 100000 in
set_option maxHeartbeats 4000000 in
theorem kX5_hasStreet {l : Launch} {g : qG} (o : Nat) (ho : tyT o) (v1 : Int32) (S : qSt) : Met l yX5_hasStreet [.code yX5_hasStreet cX5_hasStreet 2 (some .boolean)] rmX5_hasStreet (qPc g NL qT (qmem g S) [.ref (qa g o), .int v1]) (qQi g NL qT (qmem g S) (F5_hasStreet o v1 S)) 0 0 (qA g) := by
  obtain ⟨r, h⟩ : ∃ r, F5_hasStreet o v1 S = r := ⟨_, rfl⟩
  rw [h]
  refine q_met (by decide) (Nat.le_of_ble_eq_true rfl) (fun p e s m args below meth c C hr _ => ?_)
  have C : qC g cX5_hasStreet RX5 2 p s m meth c := C
  show qR g NL qT 2 p l e rmX5_hasStreet s m args below meth c 0 0 (MQ below (qQi g NL qT (qmem g S) r) args s 0 0 (qA g)) (qmem g S) 0 [(0, .ref (qa g o)), (1, .int v1)] []
  unfold F5_hasStreet at h
  refine q_iload_n C 1 dX5_hasStreet_0 rfl rfl ?_
  refine q_if_lt (tgt := 16) C h dX5_hasStreet_1 (by decide) (fun h => ?_) (fun h => ?_)
  · refine q_iconst (v := 0) C dX5_hasStreet_16 (by decide) ?_
    subst h
    exact q_zret C hr (by decide) (Nat.le_refl 0) (Nat.le_refl 0) dX5_hasStreet_17
  · refine q_iload_n C 1 dX5_hasStreet_4 rfl rfl ?_
    refine q_aload_n C 0 dX5_hasStreet_5 rfl rfl ?_
    refine s_geti C lf5_15 ho.l0 ho.k0 dX5_hasStreet_6 ?_
    refine q_icmp_ge (tgt := 16) C h dX5_hasStreet_9 (by decide) (fun h => ?_) (fun h => ?_)
    · refine q_iconst (v := 0) C dX5_hasStreet_16 (by decide) ?_
      subst h
      exact q_zret C hr (by decide) (Nat.le_refl 0) (Nat.le_refl 0) dX5_hasStreet_17
    · refine q_iconst (v := 1) C dX5_hasStreet_12 (by decide) ?_
      refine q_goto (tgt := 17) C dX5_hasStreet_13 (by decide) ?_
      subst h
      exact q_zret C hr (by decide) (Nat.le_refl 0) (Nat.le_refl 0) dX5_hasStreet_17
/-! ClosedStreets$Town.hasCrossing -/
abbrev rmX5_hasCrossing : Room := { frames := 0, cells := 0, slots := 0, locals := 0 }
def F5_hasCrossing (o : Nat) (v1 : Int32) (S : qSt) : Int32 := if v1 < 0 then (0) else (if (S o 0) ≤ v1 then (0) else (1))
set_option maxRecDepth 100000 in
set_option maxHeartbeats 4000000 in
theorem kX5_hasCrossing {l : Launch} {g : qG} (o : Nat) (ho : tyT o) (v1 : Int32) (S : qSt) : Met l yX5_hasCrossing [.code yX5_hasCrossing cX5_hasCrossing 2 (some .boolean)] rmX5_hasCrossing (qPc g NL qT (qmem g S) [.ref (qa g o), .int v1]) (qQi g NL qT (qmem g S) (F5_hasCrossing o v1 S)) 0 0 (qA g) := by
  obtain ⟨r, h⟩ : ∃ r, F5_hasCrossing o v1 S = r := ⟨_, rfl⟩
  rw [h]
  refine q_met (by decide) (Nat.le_of_ble_eq_true rfl) (fun p e s m args below meth c C hr _ => ?_)
  have C : qC g cX5_hasCrossing RX5 2 p s m meth c := C
  show qR g NL qT 2 p l e rmX5_hasCrossing s m args below meth c 0 0 (MQ below (qQi g NL qT (qmem g S) r) args s 0 0 (qA g)) (qmem g S) 0 [(0, .ref (qa g o)), (1, .int v1)] []
  unfold F5_hasCrossing at h
  refine q_iload_n C 1 dX5_hasCrossing_0 rfl rfl ?_
  refine q_if_lt (tgt := 16) C h dX5_hasCrossing_1 (by decide) (fun h => ?_) (fun h => ?_)
  · refine q_iconst (v := 0) C dX5_hasCrossing_16 (by decide) ?_
    subst h
    exact q_zret C hr (by decide) (Nat.le_refl 0) (Nat.le_refl 0) dX5_hasCrossing_17
  · refine q_iload_n C 1 dX5_hasCrossing_4 rfl rfl ?_
    refine q_aload_n C 0 dX5_hasCrossing_5 rfl rfl ?_
    refine s_geti C lf5_9 ho.l0 ho.k0 dX5_hasCrossing_6 ?_
    refine q_icmp_ge (tgt := 16) C h dX5_hasCrossing_9 (by decide) (fun h => ?_) (fun h => ?_)
    · refine q_iconst (v := 0) C dX5_hasCrossing_16 (by decide) ?_
      subst h
      exact q_zret C hr (by decide) (Nat.le_refl 0) (Nat.le_refl 0) dX5_hasCrossing_17
    · refine q_iconst (v := 1) C dX5_hasCrossing_12 (by decide) ?_
      refine q_goto (tgt := 17) C dX5_hasCrossing_13 (by decide) ?_
      subst h
      exact q_zret C hr (by decide) (Nat.le_refl 0) (Nat.le_refl 0) dX5_hasCrossing_17
/-! ClosedStreets$Town.copyStreet -/
abbrev rmX5_copyStreet : Room := { frames := 0, cells := 0, slots := 0, locals := 0 }
def F5_copyStreet (o : Nat) (a1 : Nat) (v2 : Int32) (v3 : Int32) (S : qSt) : Option qSt := if qin v2 21 = true then if qin v3 21 = true then obs (qup S (o + 1) v3.toNatClampNeg (S (a1 + 1) v2.toNatClampNeg)) fun S3 => obs (qup S3 (o + 2) v3.toNatClampNeg (S3 (a1 + 2) v2.toNatClampNeg)) fun S4 => obs (qup S4 (o + 3) v3.toNatClampNeg (S4 (a1 + 3) v2.toNatClampNeg)) fun S5 => some (qup S5 (o + 4) v3.toNatClampNeg ((S5 (a1 + 4) v2.toNatClampNeg) &&& 1)) else none else none
set_option maxRecDepth 100000 in
set_option maxHeartbeats 4000000 in
theorem kX5_copyStreet {l : Launch} {g : qG} (o : Nat) (ho : tyT o) (a1 : Nat) (ha1 : tyT a1) (v2 : Int32) (v3 : Int32) (S : qSt) {S2 : qSt} (h : F5_copyStreet o a1 v2 v3 S = some S2) : Met l yX5_copyStreet [.code yX5_copyStreet cX5_copyStreet 4 none] rmX5_copyStreet (qPc g NL qT (qmem g S) [.ref (qa g o), .ref (qa g a1), .int v2, .int v3]) (qQv g NL qT (qmem g S2)) 0 0 (qA g) := by
  refine q_met (by decide) (Nat.le_of_ble_eq_true rfl) (fun p e s m args below meth c C hr _ => ?_)
  have C : qC g cX5_copyStreet RX5 4 p s m meth c := C
  show qR g NL qT 4 p l e rmX5_copyStreet s m args below meth c 0 0 (MQ below (qQv g NL qT (qmem g S2)) args s 0 0 (qA g)) (qmem g S) 0 [(0, .ref (qa g o)), (1, .ref (qa g a1)), (2, .int v2), (3, .int v3)] []
  unfold F5_copyStreet at h
  refine q_aload_n C 0 dX5_copyStreet_0 rfl rfl ?_
  refine s_getr (a := (o + 1)) C lf5_24 ho.l0 ho.k0 rfl dX5_copyStreet_1 ?_
  refine q_iload_n C 3 dX5_copyStreet_4 rfl rfl ?_
  refine q_aload_n C 1 dX5_copyStreet_5 rfl rfl ?_
  refine s_getr (a := (a1 + 1)) C lf5_24 ha1.l0 ha1.k0 rfl dX5_copyStreet_6 ?_
  refine q_iload_n C 2 dX5_copyStreet_9 rfl rfl ?_
  obtain ⟨hb1, h⟩ := q_if h
  refine s_iald C ha1.l1 ha1.k1 hb1 dX5_copyStreet_10 ?_
  obtain ⟨hb2, h⟩ := q_if h
  obtain ⟨S3, hS3, h⟩ := obs_e h
  refine s_iast C ho.l1 ho.k1 hb2 dX5_copyStreet_11 ?_
  rw [← hS3]
  refine q_aload_n C 0 dX5_copyStreet_12 rfl rfl ?_
  refine s_getr (a := (o + 2)) C lf5_28 ho.l0 ho.k0 rfl dX5_copyStreet_13 ?_
  refine q_iload_n C 3 dX5_copyStreet_16 rfl rfl ?_
  refine q_aload_n C 1 dX5_copyStreet_17 rfl rfl ?_
  refine s_getr (a := (a1 + 2)) C lf5_28 ha1.l0 ha1.k0 rfl dX5_copyStreet_18 ?_
  refine q_iload_n C 2 dX5_copyStreet_21 rfl rfl ?_
  refine s_iald C ha1.l2 ha1.k2 hb1 dX5_copyStreet_22 ?_
  obtain ⟨S4, hS4, h⟩ := obs_e h
  refine s_iast C ho.l2 ho.k2 hb2 dX5_copyStreet_23 ?_
  rw [← hS4]
  refine q_aload_n C 0 dX5_copyStreet_24 rfl rfl ?_
  refine s_getr (a := (o + 3)) C lf5_31 ho.l0 ho.k0 rfl dX5_copyStreet_25 ?_
  refine q_iload_n C 3 dX5_copyStreet_28 rfl rfl ?_
  refine q_aload_n C 1 dX5_copyStreet_29 rfl rfl ?_
  refine s_getr (a := (a1 + 3)) C lf5_31 ha1.l0 ha1.k0 rfl dX5_copyStreet_30 ?_
  refine q_iload_n C 2 dX5_copyStreet_33 rfl rfl ?_
  refine s_iald C ha1.l3 ha1.k3 hb1 dX5_copyStreet_34 ?_
  obtain ⟨S5, hS5, h⟩ := obs_e h
  refine s_iast C ho.l3 ho.k3 hb2 dX5_copyStreet_35 ?_
  rw [← hS5]
  refine q_aload_n C 0 dX5_copyStreet_36 rfl rfl ?_
  refine s_getr (a := (o + 4)) C lf5_34 ho.l0 ho.k0 rfl dX5_copyStreet_37 ?_
  refine q_iload_n C 3 dX5_copyStreet_40 rfl rfl ?_
  refine q_aload_n C 1 dX5_copyStreet_41 rfl rfl ?_
  refine s_getr (a := (a1 + 4)) C lf5_34 ha1.l0 ha1.k0 rfl dX5_copyStreet_42 ?_
  refine q_iload_n C 2 dX5_copyStreet_45 rfl rfl ?_
  refine s_zald C ha1.l4 ha1.k4 hb1 dX5_copyStreet_46 ?_
  refine s_zast C ho.l4 ho.k4 hb2 dX5_copyStreet_47 ?_
  obtain rfl := Option.some.inj h
  exact q_vret C hr (Nat.le_refl 0) (Nat.le_refl 0) dX5_copyStreet_48
/-! ClosedStreets$Town.copyFrom -/
abbrev rmX5_copyFrom : Room := { frames := 1, cells := 0, slots := 0, locals := 40 }
def B5_copyFrom_34 (n : Nat) (o : Nat) (a1 : Nat) : Nat → Int32 → qSt → Option qSt
  | 0, _, _ => none
  | n9 + 1, v2, S => if (S o 1) ≤ v2 then (some S) else (ob1 (F5_copyStreet o a1 v2 v2 S) fun S6 => (B5_copyFrom_34 n o a1 n9) (v2 + 1) S6)
set_option maxRecDepth 100000 in
set_option maxHeartbeats 4000000 in
theorem W5_copyFrom_34 {S2 : qSt} (C : qC g cX5_copyFrom RX5 3 p s m meth c) (hr : meth.sig.returnType = none) (n : Nat) (o : Nat) (ho : tyT o) (a1 : Nat) (ha1 : tyT a1) : ∀ (n9 : Nat) (v2 : Int32) (S : qSt), B5_copyFrom_34 n o a1 n9 v2 S = some S2 → qR g NL qT 3 p l e rmX5_copyFrom s m args below meth c 0 0 (MQ below (qQv g NL qT (qmem g S2)) args s 0 0 (qA g)) (qmem g S) 34 [(0, .ref (qa g o)), (1, .ref (qa g a1)), (2, .int v2)] [] := by
  intro n9
  induction n9 with
  | zero =>
    intro v2 S h
    have h9 : (none : Option qSt) = some S2 := h
    cases h9
  | succ n9 ih =>
    intro v2 S h
    rw [B5_copyFrom_34] at h
    refine q_iload_n C 2 dX5_copyFrom_34 rfl rfl ?_
    refine q_aload_n C 0 dX5_copyFrom_35 rfl rfl ?_
    refine s_geti C lf5_15 ho.l0 ho.k0 dX5_copyFrom_36 ?_
    refine q_icmp_ge (tgt := 55) C h dX5_copyFrom_39 (by decide) (fun h => ?_) (fun h => ?_)
    · obtain rfl := Option.some.inj h
      exact q_vret C hr (Nat.le_refl 0) (Nat.le_refl 0) dX5_copyFrom_55
    · refine q_aload_n C 0 dX5_copyFrom_42 rfl rfl ?_
      refine q_aload_n C 1 dX5_copyFrom_43 rfl rfl ?_
      refine q_iload_n C 2 dX5_copyFrom_44 rfl rfl ?_
      refine q_iload_n C 2 dX5_copyFrom_45 rfl rfl ?_
      obtain ⟨S6, hc5, h⟩ := ob1_e h
      refine q_callVv0 C ho.l0 (qmem_o ho.k0 (Nat.le_of_ble_eq_true rfl)) rfl rfl (kX5_copyStreet o (ho) a1 (ha1) v2 v2 S hc5) lm5_38 rfl (rest := []) rfl (Nat.le_of_ble_eq_true rfl) dX5_copyFrom_46 ⟨rfl, rfl, Nat.le_of_ble_eq_true rfl, Nat.le_of_ble_eq_true rfl, Nat.le_refl 0, Nat.le_refl 0⟩ ?_
      refine q_iinc C 2 (v := v2 + 1) (lv' := [(2, .int (v2 + 1)), (0, .ref (qa g o)), (1, .ref (qa g a1))]) dX5_copyFrom_49 rfl rfl (by decide) rfl ?_
      refine q_norm [1, 2, 0] rfl ?_
      refine q_goto (tgt := 34) C dX5_copyFrom_52 (by decide) ?_
      exact ih (v2 + 1) S6 h
def F5_copyFrom (n : Nat) (o : Nat) (a1 : Nat) (S : qSt) : Option qSt := obs (qup S o 0 (S a1 0)) fun S1 => obs (qup S1 o 1 (S1 a1 1)) fun S2 => obs (qup S2 o 2 (S2 a1 2)) fun S3 => obs (qup S3 o 3 (S3 a1 3)) fun S4 => B5_copyFrom_34 n o a1 n 0 S4
set_option maxRecDepth 100000 in
set_option maxHeartbeats 4000000 in
theorem kX5_copyFrom {l : Launch} {g : qG} (n : Nat) (o : Nat) (ho : tyT o) (a1 : Nat) (ha1 : tyT a1) (S : qSt) {S2 : qSt} (h : F5_copyFrom n o a1 S = some S2) : Met l yX5_copyFrom [.code yX5_copyFrom cX5_copyFrom 3 none] rmX5_copyFrom (qPc g NL qT (qmem g S) [.ref (qa g o), .ref (qa g a1)]) (qQv g NL qT (qmem g S2)) 0 0 (qA g) := by
  refine q_met (by decide) (Nat.le_of_ble_eq_true rfl) (fun p e s m args below meth c C hr _ => ?_)
  have C : qC g cX5_copyFrom RX5 3 p s m meth c := C
  show qR g NL qT 3 p l e rmX5_copyFrom s m args below meth c 0 0 (MQ below (qQv g NL qT (qmem g S2)) args s 0 0 (qA g)) (qmem g S) 0 [(0, .ref (qa g o)), (1, .ref (qa g a1))] []
  unfold F5_copyFrom at h
  refine q_aload_n C 0 dX5_copyFrom_0 rfl rfl ?_
  refine q_aload_n C 1 dX5_copyFrom_1 rfl rfl ?_
  refine s_geti C lf5_9 ha1.l0 ha1.k0 dX5_copyFrom_2 ?_
  obtain ⟨S1, hS1, h⟩ := obs_e h
  refine s_puti C lf5_9 ho.l0 ho.k0 dX5_copyFrom_5 ?_
  rw [← hS1]
  refine q_aload_n C 0 dX5_copyFrom_8 rfl rfl ?_
  refine q_aload_n C 1 dX5_copyFrom_9 rfl rfl ?_
  refine s_geti C lf5_15 ha1.l0 ha1.k0 dX5_copyFrom_10 ?_
  obtain ⟨S2, hS2, h⟩ := obs_e h
  refine s_puti C lf5_15 ho.l0 ho.k0 dX5_copyFrom_13 ?_
  rw [← hS2]
  refine q_aload_n C 0 dX5_copyFrom_16 rfl rfl ?_
  refine q_aload_n C 1 dX5_copyFrom_17 rfl rfl ?_
  refine s_geti C lf5_18 ha1.l0 ha1.k0 dX5_copyFrom_18 ?_
  obtain ⟨S3, hS3, h⟩ := obs_e h
  refine s_puti C lf5_18 ho.l0 ho.k0 dX5_copyFrom_21 ?_
  rw [← hS3]
  refine q_aload_n C 0 dX5_copyFrom_24 rfl rfl ?_
  refine q_aload_n C 1 dX5_copyFrom_25 rfl rfl ?_
  refine s_geti C lf5_21 ha1.l0 ha1.k0 dX5_copyFrom_26 ?_
  obtain ⟨S4, hS4, h⟩ := obs_e h
  refine s_puti C lf5_21 ho.l0 ho.k0 dX5_copyFrom_29 ?_
  rw [← hS4]
  refine q_iconst (v := 0) C dX5_copyFrom_32 (by decide) ?_
  refine q_istore_n C (lv' := [(2, .int 0), (0, .ref (qa g o)), (1, .ref (qa g a1))]) dX5_copyFrom_33 rfl (by decide) rfl ?_
  refine q_norm [1, 2, 0] rfl ?_
  exact W5_copyFrom_34 C hr n o ho a1 ha1 n 0 S4 h
/-! ClosedStreets$Town.closedStreets -/
abbrev rmX5_closedStreets : Room := { frames := 0, cells := 0, slots := 0, locals := 0 }
def B5_closedStreets_24 (n : Nat) (o : Nat) (K4 : Int32 → Int32 → qSt → Option Int32) (v1 : Int32) (v2 : Int32) (S : qSt) : Option Int32 := K4 v1 (v2 + 1) S
set_option maxRecDepth 100000 in
set_option maxHeartbeats 4000000 in
theorem W5_closedStreets_24 {r : Int32} (C : qC g cX5_closedStreets RX5 3 p s m meth c) (hr : meth.sig.returnType = (some .int)) (n : Nat) (o : Nat) (ho : tyT o) (K4 : Int32 → Int32 → qSt → Option Int32) (hK4 : ∀ (v1 : Int32) (v2 : Int32) (S : qSt), K4 v1 v2 S = some r → qR g NL qT 3 p l e rmX5_closedStreets s m args below meth c 0 0 (MQ below (qQi g NL qT (qmem g S) r) args s 0 0 (qA g)) (qmem g S) 4 [(0, .ref (qa g o)), (1, .int v1), (2, .int v2)] []) (v1 : Int32) (v2 : Int32) (S : qSt) (h : B5_closedStreets_24 n o K4 v1 v2 S = some r) : qR g NL qT 3 p l e rmX5_closedStreets s m args below meth c 0 0 (MQ below (qQi g NL qT (qmem g S) r) args s 0 0 (qA g)) (qmem g S) 24 [(0, .ref (qa g o)), (1, .int v1), (2, .int v2)] [] := by
  unfold B5_closedStreets_24 at h
  refine q_iinc C 2 (v := v2 + 1) (lv' := [(2, .int (v2 + 1)), (0, .ref (qa g o)), (1, .int v1)]) dX5_closedStreets_24 rfl rfl (by decide) rfl ?_
  refine q_norm [1, 2, 0] rfl ?_
  refine q_goto (tgt := 4) C dX5_closedStreets_27 (by decide) ?_
  exact hK4 v1 (v2 + 1) S h
def B5_closedStreets_4 (n : Nat) (o : Nat) : Nat → Int32 → Int32 → qSt → Option Int32
  | 0, _, _, _ => none
  | n9 + 1, v1, v2, S => if (S o 1) ≤ v2 then (some v1) else (if qin v2 21 = true then if (S (o + 4) v2.toNatClampNeg) = 0 then (B5_closedStreets_24 n o (B5_closedStreets_4 n o n9) v1 v2 S) else (B5_closedStreets_24 n o (B5_closedStreets_4 n o n9) (v1 + 1) v2 S) else none)
set_option maxRecDepth 100000 in
set_option maxHeartbeats 4000000 in
theorem W5_closedStreets_4 {r : Int32} (C : qC g cX5_closedStreets RX5 3 p s m meth c) (hr : meth.sig.returnType = (some .int)) (n : Nat) (o : Nat) (ho : tyT o) : ∀ (n9 : Nat) (v1 : Int32) (v2 : Int32) (S : qSt), B5_closedStreets_4 n o n9 v1 v2 S = some r → qR g NL qT 3 p l e rmX5_closedStreets s m args below meth c 0 0 (MQ below (qQi g NL qT (qmem g S) r) args s 0 0 (qA g)) (qmem g S) 4 [(0, .ref (qa g o)), (1, .int v1), (2, .int v2)] [] := by
  intro n9
  induction n9 with
  | zero =>
    intro v1 v2 S h
    have h9 : (none : Option Int32) = some r := h
    cases h9
  | succ n9 ih =>
    intro v1 v2 S h
    rw [B5_closedStreets_4] at h
    refine q_iload_n C 2 dX5_closedStreets_4 rfl rfl ?_
    refine q_aload_n C 0 dX5_closedStreets_5 rfl rfl ?_
    refine s_geti C lf5_15 ho.l0 ho.k0 dX5_closedStreets_6 ?_
    refine q_icmp_ge (tgt := 30) C h dX5_closedStreets_9 (by decide) (fun h => ?_) (fun h => ?_)
    · refine q_iload_n C 1 dX5_closedStreets_30 rfl rfl ?_
      obtain rfl := Option.some.inj h
      exact q_iret C hr (Nat.le_refl 0) (Nat.le_refl 0) dX5_closedStreets_31
    · refine q_aload_n C 0 dX5_closedStreets_12 rfl rfl ?_
      refine s_getr (a := (o + 4)) C lf5_34 ho.l0 ho.k0 rfl dX5_closedStreets_13 ?_
      refine q_iload_n C 2 dX5_closedStreets_16 rfl rfl ?_
      obtain ⟨hb1, h⟩ := q_if h
      refine s_zald C ho.l4 ho.k4 hb1 dX5_closedStreets_17 ?_
      refine q_if_eq (tgt := 24) C h dX5_closedStreets_18 (by decide) (fun h => ?_) (fun h => ?_)
      · exact W5_closedStreets_24 C hr n o ho (B5_closedStreets_4 n o n9) ih v1 v2 S h
      · refine q_iinc C 1 (v := v1 + 1) (lv' := [(1, .int (v1 + 1)), (0, .ref (qa g o)), (2, .int v2)]) dX5_closedStreets_21 rfl rfl (by decide) rfl ?_
        refine q_norm [1, 0, 2] rfl ?_
        exact W5_closedStreets_24 C hr n o ho (B5_closedStreets_4 n o n9) ih (v1 + 1) v2 S h
def F5_closedStreets (n : Nat) (o : Nat) (S : qSt) : Option Int32 := B5_closedStreets_4 n o n 0 0 S
set_option maxRecDepth 100000 in
set_option maxHeartbeats 4000000 in
theorem kX5_closedStreets {l : Launch} {g : qG} (n : Nat) (o : Nat) (ho : tyT o) (S : qSt) {r : Int32} (h : F5_closedStreets n o S = some r) : Met l yX5_closedStreets [.code yX5_closedStreets cX5_closedStreets 3 (some .int)] rmX5_closedStreets (qPc g NL qT (qmem g S) [.ref (qa g o)]) (qQi g NL qT (qmem g S) r) 0 0 (qA g) := by
  refine q_met (by decide) (Nat.le_of_ble_eq_true rfl) (fun p e s m args below meth c C hr _ => ?_)
  have C : qC g cX5_closedStreets RX5 3 p s m meth c := C
  show qR g NL qT 3 p l e rmX5_closedStreets s m args below meth c 0 0 (MQ below (qQi g NL qT (qmem g S) r) args s 0 0 (qA g)) (qmem g S) 0 [(0, .ref (qa g o))] []
  unfold F5_closedStreets at h
  refine q_iconst (v := 0) C dX5_closedStreets_0 (by decide) ?_
  refine q_istore_n C (lv' := [(1, .int 0), (0, .ref (qa g o))]) dX5_closedStreets_1 rfl (by decide) rfl ?_
  refine q_norm [1, 0] rfl ?_
  refine q_iconst (v := 0) C dX5_closedStreets_2 (by decide) ?_
  refine q_istore_n C (lv' := [(2, .int 0), (0, .ref (qa g o)), (1, .int 0)]) dX5_closedStreets_3 rfl (by decide) rfl ?_
  refine q_norm [1, 2, 0] rfl ?_
  exact W5_closedStreets_4 C hr n o ho n 0 0 S h
/-! ClosedStreets$Town.reachedThrough -/
abbrev rmX5_reachedThrough : Room := { frames := 1, cells := 0, slots := 0, locals := 40 }
def F5_reachedThrough (o : Nat) (v1 : Int32) (v2 : Int32) (S : qSt) : Option Int32 := if (F5_hasStreet o v1 S) = 0 then (some (-999)) else (if qin v1 21 = true then if (S (o + 4) v1.toNatClampNeg) = 0 then (if ¬ (S (o + 1) v1.toNatClampNeg) = v2 then (if ¬ (S (o + 2) v1.toNatClampNeg) = v2 then (some (-999)) else (some (S (o + 1) v1.toNatClampNeg))) else (some (S (o + 2) v1.toNatClampNeg))) else (some (-999)) else none)
set_option maxRecDepth 100000 in
set_option maxHeartbeats 4000000 in
theorem kX5_reachedThrough {l : Launch} {g : qG} (o : Nat) (ho : tyT o) (v1 : Int32) (v2 : Int32) (S : qSt) {r : Int32} (h : F5_reachedThrough o v1 v2 S = some r) : Met l yX5_reachedThrough [.code yX5_reachedThrough cX5_reachedThrough 3 (some .int)] rmX5_reachedThrough (qPc g NL qT (qmem g S) [.ref (qa g o), .int v1, .int v2]) (qQi g NL qT (qmem g S) r) 0 0 (qA g) := by
  refine q_met (by decide) (Nat.le_of_ble_eq_true rfl) (fun p e s m args below meth c C hr _ => ?_)
  have C : qC g cX5_reachedThrough RX5 3 p s m meth c := C
  show qR g NL qT 3 p l e rmX5_reachedThrough s m args below meth c 0 0 (MQ below (qQi g NL qT (qmem g S) r) args s 0 0 (qA g)) (qmem g S) 0 [(0, .ref (qa g o)), (1, .int v1), (2, .int v2)] []
  unfold F5_reachedThrough at h
  refine q_aload_n C 0 dX5_reachedThrough_0 rfl rfl ?_
  refine q_iload_n C 1 dX5_reachedThrough_1 rfl rfl ?_
  refine q_callVi0 C ho.l0 (qmem_o ho.k0 (Nat.le_of_ble_eq_true rfl)) rfl rfl (kX5_hasStreet o (ho) v1 S) lm5_42 rfl (rest := []) rfl (Nat.le_of_ble_eq_true rfl) dX5_reachedThrough_2 ⟨rfl, rfl, Nat.le_of_ble_eq_true rfl, Nat.le_of_ble_eq_true rfl, Nat.le_refl 0, Nat.le_refl 0⟩ ?_
  refine q_if_eq (tgt := 17) C h dX5_reachedThrough_5 (by decide) (fun h => ?_) (fun h => ?_)
  · refine q_sipush (v := (-999)) C dX5_reachedThrough_17 (by decide) ?_
    obtain rfl := Option.some.inj h
    exact q_iret C hr (Nat.le_refl 0) (Nat.le_refl 0) dX5_reachedThrough_20
  · refine q_aload_n C 0 dX5_reachedThrough_8 rfl rfl ?_
    refine s_getr (a := (o + 4)) C lf5_34 ho.l0 ho.k0 rfl dX5_reachedThrough_9 ?_
    refine q_iload_n C 1 dX5_reachedThrough_12 rfl rfl ?_
    obtain ⟨hb1, h⟩ := q_if h
    refine s_zald C ho.l4 ho.k4 hb1 dX5_reachedThrough_13 ?_
    refine q_if_eq (tgt := 21) C h dX5_reachedThrough_14 (by decide) (fun h => ?_) (fun h => ?_)
    · refine q_aload_n C 0 dX5_reachedThrough_21 rfl rfl ?_
      refine s_getr (a := (o + 1)) C lf5_24 ho.l0 ho.k0 rfl dX5_reachedThrough_22 ?_
      refine q_iload_n C 1 dX5_reachedThrough_25 rfl rfl ?_
      refine s_iald C ho.l1 ho.k1 hb1 dX5_reachedThrough_26 ?_
      refine q_iload_n C 2 dX5_reachedThrough_27 rfl rfl ?_
      refine q_icmp_ne (tgt := 38) C h dX5_reachedThrough_28 (by decide) (fun h => ?_) (fun h => ?_)
      · refine q_aload_n C 0 dX5_reachedThrough_38 rfl rfl ?_
        refine s_getr (a := (o + 2)) C lf5_28 ho.l0 ho.k0 rfl dX5_reachedThrough_39 ?_
        refine q_iload_n C 1 dX5_reachedThrough_42 rfl rfl ?_
        refine s_iald C ho.l2 ho.k2 hb1 dX5_reachedThrough_43 ?_
        refine q_iload_n C 2 dX5_reachedThrough_44 rfl rfl ?_
        refine q_icmp_ne (tgt := 57) C h dX5_reachedThrough_45 (by decide) (fun h => ?_) (fun h => ?_)
        · refine q_sipush (v := (-999)) C dX5_reachedThrough_57 (by decide) ?_
          obtain rfl := Option.some.inj h
          exact q_iret C hr (Nat.le_refl 0) (Nat.le_refl 0) dX5_reachedThrough_60
        · refine q_aload_n C 0 dX5_reachedThrough_48 rfl rfl ?_
          refine s_getr (a := (o + 1)) C lf5_24 ho.l0 ho.k0 rfl dX5_reachedThrough_49 ?_
          refine q_iload_n C 1 dX5_reachedThrough_52 rfl rfl ?_
          refine s_iald C ho.l1 ho.k1 hb1 dX5_reachedThrough_53 ?_
          refine q_goto (tgt := 60) C dX5_reachedThrough_54 (by decide) ?_
          obtain rfl := Option.some.inj h
          exact q_iret C hr (Nat.le_refl 0) (Nat.le_refl 0) dX5_reachedThrough_60
      · refine q_aload_n C 0 dX5_reachedThrough_31 rfl rfl ?_
        refine s_getr (a := (o + 2)) C lf5_28 ho.l0 ho.k0 rfl dX5_reachedThrough_32 ?_
        refine q_iload_n C 1 dX5_reachedThrough_35 rfl rfl ?_
        refine s_iald C ho.l2 ho.k2 hb1 dX5_reachedThrough_36 ?_
        obtain rfl := Option.some.inj h
        exact q_iret C hr (Nat.le_refl 0) (Nat.le_refl 0) dX5_reachedThrough_37
    · refine q_sipush (v := (-999)) C dX5_reachedThrough_17 (by decide) ?_
      obtain rfl := Option.some.inj h
      exact q_iret C hr (Nat.le_refl 0) (Nat.le_refl 0) dX5_reachedThrough_20
/-! ClosedStreets$Town.streetJoining -/
abbrev rmX5_streetJoining : Room := { frames := 1, cells := 0, slots := 0, locals := 40 }
def B5_streetJoining_40 (n : Nat) (o : Nat) (K2 : Int32 → Int32 → Int32 → qSt → Option Int32) (v1 : Int32) (v2 : Int32) (v3 : Int32) (S : qSt) : Option Int32 := K2 v1 v2 (v3 + 1) S
set_option maxRecDepth 100000 in
set_option maxHeartbeats 4000000 in
theorem W5_streetJoining_40 {r : Int32} (C : qC g cX5_streetJoining RX5 4 p s m meth c) (hr : meth.sig.returnType = (some .int)) (n : Nat) (o : Nat) (ho : tyT o) (K2 : Int32 → Int32 → Int32 → qSt → Option Int32) (hK2 : ∀ (v1 : Int32) (v2 : Int32) (v3 : Int32) (S : qSt), K2 v1 v2 v3 S = some r → qR g NL qT 4 p l e rmX5_streetJoining s m args below meth c 0 0 (MQ below (qQi g NL qT (qmem g S) r) args s 0 0 (qA g)) (qmem g S) 2 [(0, .ref (qa g o)), (1, .int v1), (2, .int v2), (3, .int v3)] []) (v1 : Int32) (v2 : Int32) (v3 : Int32) (S : qSt) (h : B5_streetJoining_40 n o K2 v1 v2 v3 S = some r) : qR g NL qT 4 p l e rmX5_streetJoining s m args below meth c 0 0 (MQ below (qQi g NL qT (qmem g S) r) args s 0 0 (qA g)) (qmem g S) 40 [(0, .ref (qa g o)), (1, .int v1), (2, .int v2), (3, .int v3)] [] := by
  unfold B5_streetJoining_40 at h
  refine q_iinc C 3 (v := v3 + 1) (lv' := [(3, .int (v3 + 1)), (0, .ref (qa g o)), (1, .int v1), (2, .int v2)]) dX5_streetJoining_40 rfl rfl (by decide) rfl ?_
  refine q_norm [1, 2, 3, 0] rfl ?_
  refine q_goto (tgt := 2) C dX5_streetJoining_43 (by decide) ?_
  exact hK2 v1 v2 (v3 + 1) S h
def B5_streetJoining_2 (n : Nat) (o : Nat) : Nat → Int32 → Int32 → Int32 → qSt → Option Int32
  | 0, _, _, _, _ => none
  | n9 + 1, v1, v2, v3, S => if (S o 1) ≤ v3 then (some (-999)) else (if qin v3 21 = true then if ¬ (S (o + 1) v3.toNatClampNeg) = (if v2 < v1 then v2 else v1) then (B5_streetJoining_40 n o (B5_streetJoining_2 n o n9) v1 v2 v3 S) else (if ¬ (S (o + 2) v3.toNatClampNeg) = (if v1 < v2 then v2 else v1) then (B5_streetJoining_40 n o (B5_streetJoining_2 n o n9) v1 v2 v3 S) else (some v3)) else none)
set_option maxRecDepth 100000 in
set_option maxHeartbeats 4000000 in
theorem W5_streetJoining_2 {r : Int32} (C : qC g cX5_streetJoining RX5 4 p s m meth c) (hr : meth.sig.returnType = (some .int)) (n : Nat) (o : Nat) (ho : tyT o) : ∀ (n9 : Nat) (v1 : Int32) (v2 : Int32) (v3 : Int32) (S : qSt), B5_streetJoining_2 n o n9 v1 v2 v3 S = some r → qR g NL qT 4 p l e rmX5_streetJoining s m args below meth c 0 0 (MQ below (qQi g NL qT (qmem g S) r) args s 0 0 (qA g)) (qmem g S) 2 [(0, .ref (qa g o)), (1, .int v1), (2, .int v2), (3, .int v3)] [] := by
  intro n9
  induction n9 with
  | zero =>
    intro v1 v2 v3 S h
    have h9 : (none : Option Int32) = some r := h
    cases h9
  | succ n9 ih =>
    intro v1 v2 v3 S h
    rw [B5_streetJoining_2] at h
    refine q_iload_n C 3 dX5_streetJoining_2 rfl rfl ?_
    refine q_aload_n C 0 dX5_streetJoining_3 rfl rfl ?_
    refine s_geti C lf5_15 ho.l0 ho.k0 dX5_streetJoining_4 ?_
    refine q_icmp_ge (tgt := 46) C h dX5_streetJoining_7 (by decide) (fun h => ?_) (fun h => ?_)
    · refine q_sipush (v := (-999)) C dX5_streetJoining_46 (by decide) ?_
      obtain rfl := Option.some.inj h
      exact q_iret C hr (Nat.le_refl 0) (Nat.le_refl 0) dX5_streetJoining_49
    · refine q_aload_n C 0 dX5_streetJoining_10 rfl rfl ?_
      refine s_getr (a := (o + 1)) C lf5_24 ho.l0 ho.k0 rfl dX5_streetJoining_11 ?_
      refine q_iload_n C 3 dX5_streetJoining_14 rfl rfl ?_
      obtain ⟨hb1, h⟩ := q_if h
      refine s_iald C ho.l1 ho.k1 hb1 dX5_streetJoining_15 ?_
      refine q_iload_n C 1 dX5_streetJoining_16 rfl rfl ?_
      refine q_iload_n C 2 dX5_streetJoining_17 rfl rfl ?_
      refine q_mmin C lx5_50 ⟨Nat.le_of_ble_eq_true rfl, Nat.le_of_ble_eq_true rfl, Nat.le_refl 0, Nat.le_refl 0⟩ dX5_streetJoining_18 ?_
      refine q_icmp_ne (tgt := 40) C h dX5_streetJoining_21 (by decide) (fun h => ?_) (fun h => ?_)
      · exact W5_streetJoining_40 C hr n o ho (B5_streetJoining_2 n o n9) ih v1 v2 v3 S h
      · refine q_aload_n C 0 dX5_streetJoining_24 rfl rfl ?_
        refine s_getr (a := (o + 2)) C lf5_28 ho.l0 ho.k0 rfl dX5_streetJoining_25 ?_
        refine q_iload_n C 3 dX5_streetJoining_28 rfl rfl ?_
        refine s_iald C ho.l2 ho.k2 hb1 dX5_streetJoining_29 ?_
        refine q_iload_n C 1 dX5_streetJoining_30 rfl rfl ?_
        refine q_iload_n C 2 dX5_streetJoining_31 rfl rfl ?_
        refine q_mmax C lx5_55 ⟨Nat.le_of_ble_eq_true rfl, Nat.le_of_ble_eq_true rfl, Nat.le_refl 0, Nat.le_refl 0⟩ dX5_streetJoining_32 ?_
        refine q_icmp_ne (tgt := 40) C h dX5_streetJoining_35 (by decide) (fun h => ?_) (fun h => ?_)
        · exact W5_streetJoining_40 C hr n o ho (B5_streetJoining_2 n o n9) ih v1 v2 v3 S h
        · refine q_iload_n C 3 dX5_streetJoining_38 rfl rfl ?_
          obtain rfl := Option.some.inj h
          exact q_iret C hr (Nat.le_refl 0) (Nat.le_refl 0) dX5_streetJoining_39
def F5_streetJoining (n : Nat) (o : Nat) (v1 : Int32) (v2 : Int32) (S : qSt) : Option Int32 := B5_streetJoining_2 n o n v1 v2 0 S
set_option maxRecDepth 100000 in
set_option maxHeartbeats 4000000 in
theorem kX5_streetJoining {l : Launch} {g : qG} (n : Nat) (o : Nat) (ho : tyT o) (v1 : Int32) (v2 : Int32) (S : qSt) {r : Int32} (h : F5_streetJoining n o v1 v2 S = some r) : Met l yX5_streetJoining [.code yX5_streetJoining cX5_streetJoining 4 (some .int)] rmX5_streetJoining (qPc g NL qT (qmem g S) [.ref (qa g o), .int v1, .int v2]) (qQi g NL qT (qmem g S) r) 0 0 (qA g) := by
  refine q_met (by decide) (Nat.le_of_ble_eq_true rfl) (fun p e s m args below meth c C hr _ => ?_)
  have C : qC g cX5_streetJoining RX5 4 p s m meth c := C
  show qR g NL qT 4 p l e rmX5_streetJoining s m args below meth c 0 0 (MQ below (qQi g NL qT (qmem g S) r) args s 0 0 (qA g)) (qmem g S) 0 [(0, .ref (qa g o)), (1, .int v1), (2, .int v2)] []
  unfold F5_streetJoining at h
  refine q_iconst (v := 0) C dX5_streetJoining_0 (by decide) ?_
  refine q_istore_n C (lv' := [(3, .int 0), (0, .ref (qa g o)), (1, .int v1), (2, .int v2)]) dX5_streetJoining_1 rfl (by decide) rfl ?_
  refine q_norm [1, 2, 3, 0] rfl ?_
  exact W5_streetJoining_2 C hr n o ho n v1 v2 0 S h
end
