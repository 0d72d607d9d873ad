section
variable {l : Launch} {g : qG} {p : Program} {e : Env} {s : State} {m : MethodId} {args : Array Value} {below : List Frame} {meth : Method} {c : Code}
/-! ClosedStreets.refusalOfLength -/
abbrev rmX7_refusalOfLength : Room := { frames := 0, cells := 0, slots := 0, locals := 0 }
def B7_refusalOfLength_11 (S : qSt) : Int32 := 2
set_option maxRecDepth 100000 in
set_option maxHeartbeats 4000000 in
theorem W7_refusalOfLength_11 {r : Int32} (C : qC g cX7_refusalOfLength RX7 1 p s m meth c) (hr : meth.sig.returnType = (some .int)) (S : qSt) (h : B7_refusalOfLength_11 S = r) : qR g NL qT 1 p l e rmX7_refusalOfLength s m args below meth c 0 0 (MQ below (qQi g NL qT (qmem g S) r) args s 0 0 (qA g)) (qmem g S) 11 [] [] := by
  unfold B7_refusalOfLength_11 at h
  refine q_iconst (v := 2) C dX7_refusalOfLength_11 (by decide) ?_
  refine q_goto (tgt := 16) C dX7_refusalOfLength_12 (by decide) ?_
  subst h
  exact q_iret C hr (Nat.le_refl 0) (Nat.le_refl 0) dX7_refusalOfLength_16
def F7_refusalOfLength (v0 : Int32) (S : qSt) : Int32 := if v0 < 1 then (B7_refusalOfLength_11 S) else (if v0 ≤ 99 then (0) else (B7_refusalOfLength_11 S))
set_option maxRecDepth 100000 in
set_option maxHeartbeats 4000000 in
theorem kX7_refusalOfLength {l : Launch} {g : qG} (v0 : Int32) (S : qSt) : Met l yX7_refusalOfLength [.code yX7_refusalOfLength cX7_refusalOfLength 1 (some .int)] rmX7_refusalOfLength (qPc g NL qT (qmem g S) [.int v0]) (qQi g NL qT (qmem g S) (F7_refusalOfLength v0 S)) 0 0 (qA g) := by
  obtain ⟨r, h⟩ : ∃ r, F7_refusalOfLength v0 S = r := ⟨_, rfl⟩
  rw [h]
  refine q_met (by decide) (Nat.le_of_ble_eq_true rfl) (fun p e s m args below meth c C hr _ => ?_)
  have C : qC g cX7_refusalOfLength RX7 1 p s m meth c := C
  show qR g NL qT 1 p l e rmX7_refusalOfLength s m args below meth c 0 0 (MQ below (qQi g NL qT (qmem g S) r) args s 0 0 (qA g)) (qmem g S) 0 [(0, .int v0)] []
  unfold F7_refusalOfLength at h
  refine q_iload_n C 0 dX7_refusalOfLength_0 rfl rfl ?_
  refine q_iconst (v := 1) C dX7_refusalOfLength_1 (by decide) ?_
  refine q_icmp_lt (tgt := 11) C h dX7_refusalOfLength_2 (by decide) (fun h => ?_) (fun h => ?_)
  · refine q_norm [] rfl ?_
    exact W7_refusalOfLength_11 C hr S h
  · refine q_iload_n C 0 dX7_refusalOfLength_5 rfl rfl ?_
    refine q_bipush (v := 99) C dX7_refusalOfLength_6 (by decide) ?_
    refine q_icmp_le (tgt := 15) C h dX7_refusalOfLength_8 (by decide) (fun h => ?_) (fun h => ?_)
    · refine q_iconst (v := 0) C dX7_refusalOfLength_15 (by decide) ?_
      subst h
      exact q_iret C hr (Nat.le_refl 0) (Nat.le_refl 0) dX7_refusalOfLength_16
    · refine q_norm [] rfl ?_
      exact W7_refusalOfLength_11 C hr S h
/-! ClosedStreets$Town.beginWith -/
abbrev rmX5_beginWith : Room := { frames := 0, cells := 0, slots := 0, locals := 0 }
def F5_beginWith (o : Nat) (v1 : Int32) (v2 : Int32) (v3 : Int32) (S : qSt) : Option qSt := obs (qup S o 0 v1) fun S1 => obs (qup S1 o 2 v2) fun S2 => obs (qup S2 o 3 v3) fun S3 => some (qup S3 o 1 0)
set_option maxRecDepth 100000 in
set_option maxHeartbeats 4000000 in
theorem kX5_beginWith {l : Launch} {g : qG} (o : Nat) (ho : tyT o) (v1 : Int32) (v2 : Int32) (v3 : Int32) (S : qSt) {S2 : qSt} (h : F5_beginWith o v1 v2 v3 S = some S2) : Met l yX5_beginWith [.code yX5_beginWith cX5_beginWith 4 none] rmX5_beginWith (qPc g NL qT (qmem g S) [.ref (qa g o), .int v1, .int v2, .int v3]) (qQv g NL qT (qmem g S2)) 0 0 (qA g) := by
  refine q_met (by decide) (Nat.le_of_ble_eq_true rfl) (fun p e s m args below meth c C hr _ => ?_)
  have C : qC g cX5_beginWith RX5 4 p s m meth c := C
  show qR g NL qT 4 p l e rmX5_beginWith s m args below meth c 0 0 (MQ below (qQv g NL qT (qmem g S2)) args s 0 0 (qA g)) (qmem g S) 0 [(0, .ref (qa g o)), (1, .int v1), (2, .int v2), (3, .int v3)] []
  unfold F5_beginWith at h
  refine q_aload_n C 0 dX5_beginWith_0 rfl rfl ?_
  refine q_iload_n C 1 dX5_beginWith_1 rfl rfl ?_
  obtain ⟨S1, hS1, h⟩ := obs_e h
  refine s_puti C lf5_9 ho.l0 ho.k0 dX5_beginWith_2 ?_
  rw [← hS1]
  refine q_aload_n C 0 dX5_beginWith_5 rfl rfl ?_
  refine q_iload_n C 2 dX5_beginWith_6 rfl rfl ?_
  obtain ⟨S2, hS2, h⟩ := obs_e h
  refine s_puti C lf5_18 ho.l0 ho.k0 dX5_beginWith_7 ?_
  rw [← hS2]
  refine q_aload_n C 0 dX5_beginWith_10 rfl rfl ?_
  refine q_iload_n C 3 dX5_beginWith_11 rfl rfl ?_
  obtain ⟨S3, hS3, h⟩ := obs_e h
  refine s_puti C lf5_21 ho.l0 ho.k0 dX5_beginWith_12 ?_
  rw [← hS3]
  refine q_aload_n C 0 dX5_beginWith_15 rfl rfl ?_
  refine q_iconst (v := 0) C dX5_beginWith_16 (by decide) ?_
  refine s_puti C lf5_15 ho.l0 ho.k0 dX5_beginWith_17 ?_
  obtain rfl := Option.some.inj h
  exact q_vret C hr (Nat.le_refl 0) (Nat.le_refl 0) dX5_beginWith_20
/-! ClosedStreets$Town.takesNoStreet -/
abbrev rmX5_takesNoStreet : Room := { frames := 0, cells := 0, slots := 0, locals := 0 }
def B5_takesNoStreet_29 (o : Nat) (S : qSt) : Int32 := 1
set_option maxRecDepth 100000 in
set_option maxHeartbeats 4000000 in
theorem W5_takesNoStreet_29 {r : Int32} (C : qC g cX5_takesNoStreet RX5 1 p s m meth c) (hr : meth.sig.returnType = (some .boolean)) (o : Nat) (ho : tyT o) (S : qSt) (h : B5_takesNoStreet_29 o S = r) : qR g NL qT 1 p l e rmX5_takesNoStreet s m args below meth c 0 0 (MQ below (qQi g NL qT (qmem g S) r) args s 0 0 (qA g)) (qmem g S) 29 [] [] := by
  unfold B5_takesNoStreet_29 at h
  refine q_iconst (v := 1) C dX5_takesNoStreet_29 (by decide) ?_
  refine q_goto (tgt := 34) C dX5_takesNoStreet_30 (by decide) ?_
  subst h
  exact q_zret C hr (by decide) (Nat.le_refl 0) (Nat.le_refl 0) dX5_takesNoStreet_34
def F5_takesNoStreet (o : Nat) (S : qSt) : Int32 := if 20 ≤ (S o 1) then (B5_takesNoStreet_29 o S) else (if (S o 1) < (((S o 0) * ((S o 0) - 1)) / 2) then (0) else (B5_takesNoStreet_29 o S))
set_option maxRecDepth 100000 in
set_option maxHeartbeats 4000000 in
theorem kX5_takesNoStreet {l : Launch} {g : qG} (o : Nat) (ho : tyT o) (S : qSt) : Met l yX5_takesNoStreet [.code yX5_takesNoStreet cX5_takesNoStreet 1 (some .boolean)] rmX5_takesNoStreet (qPc g NL qT (qmem g S) [.ref (qa g o)]) (qQi g NL qT (qmem g S) (F5_takesNoStreet o S)) 0 0 (qA g) := by
  obtain ⟨r, h⟩ : ∃ r, F5_takesNoStreet o S = r := ⟨_, rfl⟩
  rw [h]
  refine q_met (by decide) (Nat.le_of_ble_eq_true rfl) (fun p e s m args below meth c C hr _ => ?_)
  have C : qC g cX5_takesNoStreet RX5 1 p s m meth c := C
  show qR g NL qT 1 p l e rmX5_takesNoStreet s m args below meth c 0 0 (MQ below (qQi g NL qT (qmem g S) r) args s 0 0 (qA g)) (qmem g S) 0 [(0, .ref (qa g o))] []
  unfold F5_takesNoStreet at h
  refine q_aload_n C 0 dX5_takesNoStreet_0 rfl rfl ?_
  refine s_geti C lf5_15 ho.l0 ho.k0 dX5_takesNoStreet_1 ?_
  refine q_bipush (v := 20) C dX5_takesNoStreet_4 (by decide) ?_
  refine q_icmp_ge (tgt := 29) C h dX5_takesNoStreet_6 (by decide) (fun h => ?_) (fun h => ?_)
  · refine q_norm [] rfl ?_
    exact W5_takesNoStreet_29 C hr o ho S h
  · refine q_aload_n C 0 dX5_takesNoStreet_9 rfl rfl ?_
    refine s_geti C lf5_15 ho.l0 ho.k0 dX5_takesNoStreet_10 ?_
    refine q_aload_n C 0 dX5_takesNoStreet_13 rfl rfl ?_
    refine s_geti C lf5_9 ho.l0 ho.k0 dX5_takesNoStreet_14 ?_
    refine q_aload_n C 0 dX5_takesNoStreet_17 rfl rfl ?_
    refine s_geti C lf5_9 ho.l0 ho.k0 dX5_takesNoStreet_18 ?_
    refine q_iconst (v := 1) C dX5_takesNoStreet_21 (by decide) ?_
    refine q_isub C dX5_takesNoStreet_22 ?_
    refine q_imul C dX5_takesNoStreet_23 ?_
    refine q_iconst (v := 2) C dX5_takesNoStreet_24 (by decide) ?_
    refine q_idiv C dX5_takesNoStreet_25 (by decide) ?_
    refine q_icmp_lt (tgt := 33) C h dX5_takesNoStreet_26 (by decide) (fun h => ?_) (fun h => ?_)
    · refine q_iconst (v := 0) C dX5_takesNoStreet_33 (by decide) ?_
      subst h
      exact q_zret C hr (by decide) (Nat.le_refl 0) (Nat.le_refl 0) dX5_takesNoStreet_34
    · refine q_norm [] rfl ?_
      exact W5_takesNoStreet_29 C hr o ho S h
/-! ClosedStreets$Town.hasCrossing -/
abbrev rmX5_hasCrossing : Room := { frames := 0, cells := 0, slots := 0, locals := 0 }
def F5_hasCrossing (o : Nat) (v1 : Int32) (S : qSt) : Int32 := if v1 < 0 then (0) else (if (S o 0) ≤ v1 then (0) else (1))
set_option maxRecDepth 100000 in
set_option maxHeartbeats 4000000 in
theorem kX5_hasCrossing {l : Launch} {g : qG} (o : Nat) (ho : tyT o) (v1 : Int32) (S : qSt) : Met l yX5_hasCrossing [.code yX5_hasCrossing cX5_hasCrossing 2 (some .boolean)] rmX5_hasCrossing (qPc g NL qT (qmem g S) [.ref (qa g o), .int v1]) (qQi g NL qT (qmem g S) (F5_hasCrossing o v1 S)) 0 0 (qA g) := by
  obtain ⟨r, h⟩ : ∃ r, F5_hasCrossing o v1 S = r := ⟨_, rfl⟩
  rw [h]
  refine q_met (by decide) (Nat.le_of_ble_eq_true rfl) (fun p e s m args below meth c C hr _ => ?_)
  have C : qC g cX5_hasCrossing RX5 2 p s m meth c := C
  show qR g NL qT 2 p l e rmX5_hasCrossing s m args below meth c 0 0 (MQ below (qQi g NL qT (qmem g S) r) args s 0 0 (qA g)) (qmem g S) 0 [(0, .ref (qa g o)), (1, .int v1)] []
  unfold F5_hasCrossing at h
  refine q_iload_n C 1 dX5_hasCrossing_0 rfl rfl ?_
  refine q_if_lt (tgt := 16) C h dX5_hasCrossing_1 (by decide) (fun h => ?_) (fun h => ?_)
  · refine q_iconst (v := 0) C dX5_hasCrossing_16 (by decide) ?_
    subst h
    exact q_zret C hr (by decide) (Nat.le_refl 0) (Nat.le_refl 0) dX5_hasCrossing_17
  · refine q_iload_n C 1 dX5_hasCrossing_4 rfl rfl ?_
    refine q_aload_n C 0 dX5_hasCrossing_5 rfl rfl ?_
    refine s_geti C lf5_9 ho.l0 ho.k0 dX5_hasCrossing_6 ?_
    refine q_icmp_ge (tgt := 16) C h dX5_hasCrossing_9 (by decide) (fun h => ?_) (fun h => ?_)
    · refine q_iconst (v := 0) C dX5_hasCrossing_16 (by decide) ?_
      subst h
      exact q_zret C hr (by decide) (Nat.le_refl 0) (Nat.le_refl 0) dX5_hasCrossing_17
    · refine q_iconst (v := 1) C dX5_hasCrossing_12 (by decide) ?_
      refine q_goto (tgt := 17) C dX5_hasCrossing_13 (by decide) ?_
      subst h
      exact q_zret C hr (by decide) (Nat.le_refl 0) (Nat.le_refl 0) dX5_hasCrossing_17
/-! ClosedStreets$Town.isJoinedWithAllOthers -/
abbrev rmX5_isJoinedWithAllOthers : Room := { frames := 0, cells := 0, slots := 0, locals := 0 }
def B5_isJoinedWithAllOthers_41 (n : Nat) (o : Nat) (v2 : Int32) (S : qSt) : Option Int32 := if v2 < ((S o 0) - 1) then (some 0) else (some 1)
set_option maxRecDepth 100000 in
set_option maxHeartbeats 4000000 in
theorem W5_isJoinedWithAllOthers_41 {r : Int32} (C : qC g cX5_isJoinedWithAllOthers RX5 4 p s m meth c) (hr : meth.sig.returnType = (some .boolean)) (n : Nat) (o : Nat) (ho : tyT o) (v2 : Int32) (S : qSt) (h : B5_isJoinedWithAllOthers_41 n o v2 S = some r) : qR g NL qT 4 p l e rmX5_isJoinedWithAllOthers s m args below meth c 0 0 (MQ below (qQi g NL qT (qmem g S) r) args s 0 0 (qA g)) (qmem g S) 41 [(0, .ref (qa g o)), (2, .int v2)] [] := by
  unfold B5_isJoinedWithAllOthers_41 at h
  refine q_iload_n C 1 dX5_isJoinedWithAllOthers_41 rfl rfl ?_
  refine q_aload_n C 0 dX5_isJoinedWithAllOthers_42 rfl rfl ?_
  refine s_geti C lf5_9 ho.l0 ho.k0 dX5_isJoinedWithAllOthers_43 ?_
  refine q_iconst (v := 1) C dX5_isJoinedWithAllOthers_46 (by decide) ?_
  refine q_isub C dX5_isJoinedWithAllOthers_47 ?_
  refine q_icmp_lt (tgt := 55) C h dX5_isJoinedWithAllOthers_48 (by decide) (fun h => ?_) (fun h => ?_)
  · refine q_iconst (v := 0) C dX5_isJoinedWithAllOthers_55 (by decide) ?_
    obtain rfl := Option.some.inj h
    exact q_zret C hr (by decide) (Nat.le_refl 0) (Nat.le_refl 0) dX5_isJoinedWithAllOthers_56
  · refine q_iconst (v := 1) C dX5_isJoinedWithAllOthers_51 (by decide) ?_
    refine q_goto (tgt := 56) C dX5_isJoinedWithAllOthers_52 (by decide) ?_
    obtain rfl := Option.some.inj h
    exact q_zret C hr (by decide) (Nat.le_refl 0) (Nat.le_refl 0) dX5_isJoinedWithAllOthers_56
def B5_isJoinedWithAllOthers_35 (n : Nat) (o : Nat) (K4 : Int32 → Int32 → Int32 → qSt → Option Int32) (v1 : Int32) (v2 : Int32) (v3 : Int32) (S : qSt) : Option Int32 := K4 v1 v2 (v3 + 1) S
set_option maxRecDepth 100000 in
set_option maxHeartbeats 4000000 in
theorem W5_isJoinedWithAllOthers_35 {r : Int32} (C : qC g cX5_isJoinedWithAllOthers RX5 4 p s m meth c) (hr : meth.sig.returnType = (some .boolean)) (n : Nat) (o : Nat) (ho : tyT o) (K4 : Int32 → Int32 → Int32 → qSt → Option Int32) (hK4 : ∀ (v1 : Int32) (v2 : Int32) (v3 : Int32) (S : qSt), K4 v1 v2 v3 S = some r → qR g NL qT 4 p l e rmX5_isJoinedWithAllOthers s m args below meth c 0 0 (MQ below (qQi g NL qT (qmem g S) r) args s 0 0 (qA g)) (qmem g S) 4 [(0, .ref (qa g o)), (1, .int v1), (2, .int v2), (3, .int v3)] []) (v1 : Int32) (v2 : Int32) (v3 : Int32) (S : qSt) (h : B5_isJoinedWithAllOthers_35 n o K4 v1 v2 v3 S = some r) : qR g NL qT 4 p l e rmX5_isJoinedWithAllOthers s m args below meth c 0 0 (MQ below (qQi g NL qT (qmem g S) r) args s 0 0 (qA g)) (qmem g S) 35 [(0, .ref (qa g o)), (1, .int v1), (2, .int v2), (3, .int v3)] [] := by
  unfold B5_isJoinedWithAllOthers_35 at h
  refine q_iinc C 3 (v := v3 + 1) (lv' := [(3, .int (v3 + 1)), (0, .ref (qa g o)), (1, .int v1), (2, .int v2)]) dX5_isJoinedWithAllOthers_35 rfl rfl (by decide) rfl ?_
  refine q_norm [1, 2, 3, 0] rfl ?_
  refine q_goto (tgt := 4) C dX5_isJoinedWithAllOthers_38 (by decide) ?_
  exact hK4 v1 v2 (v3 + 1) S h
def B5_isJoinedWithAllOthers_32 (n : Nat) (o : Nat) (K4 : Int32 → Int32 → Int32 → qSt → Option Int32) (v1 : Int32) (v2 : Int32) (v3 : Int32) (S : qSt) : Option Int32 := B5_isJoinedWithAllOthers_35 n o K4 v1 (v2 + 1) v3 S
set_option maxRecDepth 100000 in
set_option maxHeartbeats 4000000 in
theorem W5_isJoinedWithAllOthers_32 {r : Int32} (C : qC g cX5_isJoinedWithAllOthers RX5 4 p s m meth c) (hr : meth.sig.returnType = (some .boolean)) (n : Nat) (o : Nat) (ho : tyT o) (K4 : Int32 → Int32 → Int32 → qSt → Option Int32) (hK4 : ∀ (v1 : Int32) (v2 : Int32) (v3 : Int32) (S : qSt), K4 v1 v2 v3 S = some r → qR g NL qT 4 p l e rmX5_isJoinedWithAllOthers s m args below meth c 0 0 (MQ below (qQi g NL qT (qmem g S) r) args s 0 0 (qA g)) (qmem g S) 4 [(0, .ref (qa g o)), (1, .int v1), (2, .int v2), (3, .int v3)] []) (v1 : Int32) (v2 : Int32) (v3 : Int32) (S : qSt) (h : B5_isJoinedWithAllOthers_32 n o K4 v1 v2 v3 S = some r) : qR g NL qT 4 p l e rmX5_isJoinedWithAllOthers s m args below meth c 0 0 (MQ below (qQi g NL qT (qmem g S) r) args s 0 0 (qA g)) (qmem g S) 32 [(0, .ref (qa g o)), (1, .int v1), (2, .int v2), (3, .int v3)] [] := by
  unfold B5_isJoinedWithAllOthers_32 at h
  refine q_iinc C 2 (v := v2 + 1) (lv' := [(2, .int (v2 + 1)), (0, .ref (qa g o)), (1, .int v1), (3, .int v3)]) dX5_isJoinedWithAllOthers_32 rfl rfl (by decide) rfl ?_
  refine q_norm [1, 2, 0, 3] rfl ?_
  exact W5_isJoinedWithAllOthers_35 C hr n o ho K4 hK4 v1 (v2 + 1) v3 S h
def B5_isJoinedWithAllOthers_4 (n : Nat) (o : Nat) : Nat → Int32 → Int32 → Int32 → qSt → Option Int32
  | 0, _, _, _, _ => none
  | n9 + 1, v1, v2, v3, S => if (S o 1) ≤ v3 then (B5_isJoinedWithAllOthers_41 n o v2 S) else (if qin v3 21 = true then if (S (o + 1) v3.toNatClampNeg) = v1 then (B5_isJoinedWithAllOthers_32 n o (B5_isJoinedWithAllOthers_4 n o n9) v1 v2 v3 S) else (if ¬ (S (o + 2) v3.toNatClampNeg) = v1 then (B5_isJoinedWithAllOthers_35 n o (B5_isJoinedWithAllOthers_4 n o n9) v1 v2 v3 S) else (B5_isJoinedWithAllOthers_32 n o (B5_isJoinedWithAllOthers_4 n o n9) v1 v2 v3 S)) else none)
set_option maxRecDepth 100000 in
set_option maxHeartbeats 4000000 in
theorem W5_isJoinedWithAllOthers_4 {r : Int32} (C : qC g cX5_isJoinedWithAllOthers RX5 4 p s m meth c) (hr : meth.sig.returnType = (some .boolean)) (n : Nat) (o : Nat) (ho : tyT o) : ∀ (n9 : Nat) (v1 : Int32) (v2 : Int32) (v3 : Int32) (S : qSt), B5_isJoinedWithAllOthers_4 n o n9 v1 v2 v3 S = some r → qR g NL qT 4 p l e rmX5_isJoinedWithAllOthers s m args below meth c 0 0 (MQ below (qQi g NL qT (qmem g S) r) args s 0 0 (qA g)) (qmem g S) 4 [(0, .ref (qa g o)), (1, .int v1), (2, .int v2), (3, .int v3)] [] := by
  intro n9
  induction n9 with
  | zero =>
    intro v1 v2 v3 S h
    have h9 : (none : Option Int32) = some r := h
    cases h9
  | succ n9 ih =>
    intro v1 v2 v3 S h
    rw [B5_isJoinedWithAllOthers_4] at h
    refine q_iload_n C 3 dX5_isJoinedWithAllOthers_4 rfl rfl ?_
    refine q_aload_n C 0 dX5_isJoinedWithAllOthers_5 rfl rfl ?_
    refine s_geti C lf5_15 ho.l0 ho.k0 dX5_isJoinedWithAllOthers_6 ?_
    refine q_icmp_ge (tgt := 41) C h dX5_isJoinedWithAllOthers_9 (by decide) (fun h => ?_) (fun h => ?_)
    · refine q_norm [0, 2] rfl ?_
      exact W5_isJoinedWithAllOthers_41 C hr n o ho v2 S h
    · refine q_aload_n C 0 dX5_isJoinedWithAllOthers_12 rfl rfl ?_
      refine s_getr (a := (o + 1)) C lf5_24 ho.l0 ho.k0 rfl dX5_isJoinedWithAllOthers_13 ?_
      refine q_iload_n C 3 dX5_isJoinedWithAllOthers_16 rfl rfl ?_
      obtain ⟨hb1, h⟩ := q_if h
      refine s_iald C ho.l1 ho.k1 hb1 dX5_isJoinedWithAllOthers_17 ?_
      refine q_iload_n C 1 dX5_isJoinedWithAllOthers_18 rfl rfl ?_
      refine q_icmp_eq (tgt := 32) C h dX5_isJoinedWithAllOthers_19 (by decide) (fun h => ?_) (fun h => ?_)
      · exact W5_isJoinedWithAllOthers_32 C hr n o ho (B5_isJoinedWithAllOthers_4 n o n9) ih v1 v2 v3 S h
      · refine q_aload_n C 0 dX5_isJoinedWithAllOthers_22 rfl rfl ?_
        refine s_getr (a := (o + 2)) C lf5_28 ho.l0 ho.k0 rfl dX5_isJoinedWithAllOthers_23 ?_
        refine q_iload_n C 3 dX5_isJoinedWithAllOthers_26 rfl rfl ?_
        refine s_iald C ho.l2 ho.k2 hb1 dX5_isJoinedWithAllOthers_27 ?_
        refine q_iload_n C 1 dX5_isJoinedWithAllOthers_28 rfl rfl ?_
        refine q_icmp_ne (tgt := 35) C h dX5_isJoinedWithAllOthers_29 (by decide) (fun h => ?_) (fun h => ?_)
        · exact W5_isJoinedWithAllOthers_35 C hr n o ho (B5_isJoinedWithAllOthers_4 n o n9) ih v1 v2 v3 S h
        · exact W5_isJoinedWithAllOthers_32 C hr n o ho (B5_isJoinedWithAllOthers_4 n o n9) ih v1 v2 v3 S h
def F5_isJoinedWithAllOthers (n : Nat) (o : Nat) (v1 : Int32) (S : qSt) : Option Int32 := B5_isJoinedWithAllOthers_4 n o n v1 0 0 S
set_option maxRecDepth 100000 in
set_option maxHeartbeats 4000000 in
theorem kX5_isJoinedWithAllOthers {l : Launch} {g : qG} (n : Nat) (o : Nat) (ho : tyT o) (v1 : Int32) (S : qSt) {r : Int32} (h : F5_isJoinedWithAllOthers n o v1 S = some r) : Met l yX5_isJoinedWithAllOthers [.code yX5_isJoinedWithAllOthers cX5_isJoinedWithAllOthers 4 (some .boolean)] rmX5_isJoinedWithAllOthers (qPc g NL qT (qmem g S) [.ref (qa g o), .int v1]) (qQi g NL qT (qmem g S) r) 0 0 (qA g) := by
  refine q_met (by decide) (Nat.le_of_ble_eq_true rfl) (fun p e s m args below meth c C hr _ => ?_)
  have C : qC g cX5_isJoinedWithAllOthers RX5 4 p s m meth c := C
  show qR g NL qT 4 p l e rmX5_isJoinedWithAllOthers s m args below meth c 0 0 (MQ below (qQi g NL qT (qmem g S) r) args s 0 0 (qA g)) (qmem g S) 0 [(0, .ref (qa g o)), (1, .int v1)] []
  unfold F5_isJoinedWithAllOthers at h
  refine q_iconst (v := 0) C dX5_isJoinedWithAllOthers_0 (by decide) ?_
  refine q_istore_n C (lv' := [(2, .int 0), (0, .ref (qa g o)), (1, .int v1)]) dX5_isJoinedWithAllOthers_1 rfl (by decide) rfl ?_
  refine q_norm [1, 2, 0] rfl ?_
  refine q_iconst (v := 0) C dX5_isJoinedWithAllOthers_2 (by decide) ?_
  refine q_istore_n C (lv' := [(3, .int 0), (0, .ref (qa g o)), (1, .int v1), (2, .int 0)]) dX5_isJoinedWithAllOthers_3 rfl (by decide) rfl ?_
  refine q_norm [1, 2, 3, 0] rfl ?_
  exact W5_isJoinedWithAllOthers_4 C hr n o ho n v1 0 0 S h
/-! ClosedStreets$Town.streetJoining -/
abbrev rmX5_streetJoining : Room := { frames := 1, cells := 0, slots := 0, locals := 40 }
def B5_streetJoining_40 (n : Nat) (o : Nat) (K2 : Int32 → Int32 → Int32 → qSt → Option Int32) (v1 : Int32) (v2 : Int32) (v3 : Int32) (S : qSt) : Option Int32 := K2 v1 v2 (v3 + 1) S
set_option maxRecDepth 100000 in
set_option maxHeartbeats 4000000 in
theorem W5_streetJoining_40 {r : Int32} (C : qC g cX5_streetJoining RX5 4 p s m meth c) (hr : meth.sig.returnType = (some .int)) (n : Nat) (o : Nat) (ho : tyT o) (K2 : Int32 → Int32 → Int32 → qSt → Option Int32) (hK2 : ∀ (v1 : Int32) (v2 : Int32) (v3 : Int32) (S : qSt), K2 v1 v2 v3 S = some r → qR g NL qT 4 p l e rmX5_streetJoining s m args below meth c 0 0 (MQ below (qQi g NL qT (qmem g S) r) args s 0 0 (qA g)) (qmem g S) 2 [(0, .ref (qa g o)), (1, .int v1), (2, .int v2), (3, .int v3)] []) (v1 : Int32) (v2 : Int32) (v3 : Int32) (S : qSt) (h : B5_streetJoining_40 n o K2 v1 v2 v3 S = some r) : qR g NL qT 4 p l e rmX5_streetJoining s m args below meth c 0 0 (MQ below (qQi g NL qT (qmem g S) r) args s 0 0 (qA g)) (qmem g S) 40 [(0, .ref (qa g o)), (1, .int v1), (2, .int v2), (3, .int v3)] [] := by
  unfold B5_streetJoining_40 at h
  refine q_iinc C 3 (v := v3 + 1) (lv' := [(3, .int (v3 + 1)), (0, .ref (qa g o)), (1, .int v1), (2, .int v2)]) dX5_streetJoining_40 rfl rfl (by decide) rfl ?_
  refine q_norm [1, 2, 3, 0] rfl ?_
  refine q_goto (tgt := 2) C dX5_streetJoining_43 (by decide) ?_
  exact hK2 v1 v2 (v3 + 1) S h
def B5_streetJoining_2 (n : Nat) (o : Nat) : Nat → Int32 → Int32 → Int32 → qSt → Option Int32
  | 0, _, _, _, _ => none
  | n9 + 1, v1, v2, v3, S => if (S o 1) ≤ v3 then (some (-999)) else (if qin v3 21 = true then if ¬ (S (o + 1) v3.toNatClampNeg) = (if v2 < v1 then v2 else v1) then (B5_streetJoining_40 n o (B5_streetJoining_2 n o n9) v1 v2 v3 S) else (if ¬ (S (o + 2) v3.toNatClampNeg) = (if v1 < v2 then v2 else v1) then (B5_streetJoining_40 n o (B5_streetJoining_2 n o n9) v1 v2 v3 S) else (some v3)) else none)
set_option maxRecDepth 100000 in
set_option maxHeartbeats 4000000 in
theorem W5_streetJoining_2 {r : Int32} (C : qC g cX5_streetJoining RX5 4 p s m meth c) (hr : meth.sig.returnType = (some .int)) (n : Nat) (o : Nat) (ho : tyT o) : ∀ (n9 : Nat) (v1 : Int32) (v2 : Int32) (v3 : Int32) (S : qSt), B5_streetJoining_2 n o n9 v1 v2 v3 S = some r → qR g NL qT 4 p l e rmX5_streetJoining s m args below meth c 0 0 (MQ below (qQi g NL qT (qmem g S) r) args s 0 0 (qA g)) (qmem g S) 2 [(0, .ref (qa g o)), (1, .int v1), (2, .int v2), (3, .int v3)] [] := by
  intro n9
  induction n9 with
  | zero =>
    intro v1 v2 v3 S h
    have h9 : (none : Option Int32) = some r := h
    cases h9
  | succ n9 ih =>
    intro v1 v2 v3 S h
    rw [B5_streetJoining_2] at h
    refine q_iload_n C 3 dX5_streetJoining_2 rfl rfl ?_
    refine q_aload_n C 0 dX5_streetJoining_3 rfl rfl ?_
    refine s_geti C lf5_15 ho.l0 ho.k0 dX5_streetJoining_4 ?_
    refine q_icmp_ge (tgt := 46) C h dX5_streetJoining_7 (by decide) (fun h => ?_) (fun h => ?_)
    · refine q_sipush (v := (-999)) C dX5_streetJoining_46 (by decide) ?_
      obtain rfl := Option.some.inj h
      exact q_iret C hr (Nat.le_refl 0) (Nat.le_refl 0) dX5_streetJoining_49
    · refine q_aload_n C 0 dX5_streetJoining_10 rfl rfl ?_
      refine s_getr (a := (o + 1)) C lf5_24 ho.l0 ho.k0 rfl dX5_streetJoining_11 ?_
      refine q_iload_n C 3 dX5_streetJoining_14 rfl rfl ?_
      obtain ⟨hb1, h⟩ := q_if h
      refine s_iald C ho.l1 ho.k1 hb1 dX5_streetJoining_15 ?_
      refine q_iload_n C 1 dX5_streetJoining_16 rfl rfl ?_
      refine q_iload_n C 2 dX5_streetJoining_17 rfl rfl ?_
      refine q_mmin C lx5_50 ⟨Nat.le_of_ble_eq_true rfl, Nat.le_of_ble_eq_true rfl, Nat.le_of_ble_eq_true rfl, Nat.le_of_ble_eq_true rfl⟩ dX5_streetJoining_18 ?_
      refine q_icmp_ne (tgt := 40) C h dX5_streetJoining_21 (by decide) (fun h => ?_) (fun h => ?_)
      · exact W5_streetJoining_40 C hr n o ho (B5_streetJoining_2 n o n9) ih v1 v2 v3 S h
      · refine q_aload_n C 0 dX5_streetJoining_24 rfl rfl ?_
        refine s_getr (a := (o + 2)) C lf5_28 ho.l0 ho.k0 rfl dX5_streetJoining_25 ?_
        refine q_iload_n C 3 dX5_streetJoining_28 rfl rfl ?_
        refine s_iald C ho.l2 ho.k2 hb1 dX5_streetJoining_29 ?_
        refine q_iload_n C 1 dX5_streetJoining_30 rfl rfl ?_
        refine q_iload_n C 2 dX5_streetJoining_31 rfl rfl ?_
        refine q_mmax C lx5_55 ⟨Nat.le_of_ble_eq_true rfl, Nat.le_of_ble_eq_true rfl, Nat.le_of_ble_eq_true rfl, Nat.le_of_ble_eq_true rfl⟩ dX5_streetJoining_32 ?_
        refine q_icmp_ne (tgt := 40) C h dX5_streetJoining_35 (by decide) (fun h => ?_) (fun h => ?_)
        · exact W5_streetJoining_40 C hr n o ho (B5_streetJoining_2 n o n9) ih v1 v2 v3 S h
        · refine q_iload_n C 3 dX5_streetJoining_38 rfl rfl ?_
          obtain rfl := Option.some.inj h
          exact q_iret C hr (Nat.le_refl 0) (Nat.le_refl 0) dX5_streetJoining_39
def F5_streetJoining (n : Nat) (o : Nat) (v1 : Int32) (v2 : Int32) (S : qSt) : Option Int32 := B5_streetJoining_2 n o n v1 v2 0 S
set_option maxRecDepth 100000 in
set_option maxHeartbeats 4000000 in
theorem kX5_streetJoining {l : Launch} {g : qG} (n : Nat) (o : Nat) (ho : tyT o) (v1 : Int32) (v2 : Int32) (S : qSt) {r : Int32} (h : F5_streetJoining n o v1 v2 S = some r) : Met l yX5_streetJoining [.code yX5_streetJoining cX5_streetJoining 4 (some .int)] rmX5_streetJoining (qPc g NL qT (qmem g S) [.ref (qa g o), .int v1, .int v2]) (qQi g NL qT (qmem g S) r) 0 0 (qA g) := by
  refine q_met (by decide) (Nat.le_of_ble_eq_true rfl) (fun p e s m args below meth c C hr _ => ?_)
  have C : qC g cX5_streetJoining RX5 4 p s m meth c := C
  show qR g NL qT 4 p l e rmX5_streetJoining s m args below meth c 0 0 (MQ below (qQi g NL qT (qmem g S) r) args s 0 0 (qA g)) (qmem g S) 0 [(0, .ref (qa g o)), (1, .int v1), (2, .int v2)] []
  unfold F5_streetJoining at h
  refine q_iconst (v := 0) C dX5_streetJoining_0 (by decide) ?_
  refine q_istore_n C (lv' := [(3, .int 0), (0, .ref (qa g o)), (1, .int v1), (2, .int v2)]) dX5_streetJoining_1 rfl (by decide) rfl ?_
  refine q_norm [1, 2, 3, 0] rfl ?_
  exact W5_streetJoining_2 C hr n o ho n v1 v2 0 S h
/-! ClosedStreets$Town.refusalOfPair -/
abbrev rmX5_refusalOfPair : Room := { frames := 1, cells := 0, slots := 0, locals := 40 }
def F5_refusalOfPair (o : Nat) (v1 : Int32) (v2 : Int32) (S : qSt) : Int32 := if (F5_hasCrossing o v1 S) = 0 then (1) else (if ¬ (F5_hasCrossing o v2 S) = 0 then (if ¬ v1 = v2 then (0) else (2)) else (1))
set_option maxRecDepth 100000 in
set_option maxHeartbeats 4000000 in
theorem kX5_refusalOfPair {l : Launch} {g : qG} (o : Nat) (ho : tyT o) (v1 : Int32) (v2 : Int32) (S : qSt) : Met l yX5_refusalOfPair [.code yX5_refusalOfPair cX5_refusalOfPair 3 (some .int)] rmX5_refusalOfPair (qPc g NL qT (qmem g S) [.ref (qa g o), .int v1, .int v2]) (qQi g NL qT (qmem g S) (F5_refusalOfPair o v1 v2 S)) 0 0 (qA g) := by
  obtain ⟨r, h⟩ : ∃ r, F5_refusalOfPair o v1 v2 S = r := ⟨_, rfl⟩
  rw [h]
  refine q_met (by decide) (Nat.le_of_ble_eq_true rfl) (fun p e s m args below meth c C hr _ => ?_)
  have C : qC g cX5_refusalOfPair RX5 3 p s m meth c := C
  show qR g NL qT 3 p l e rmX5_refusalOfPair s m args below meth c 0 0 (MQ below (qQi g NL qT (qmem g S) r) args s 0 0 (qA g)) (qmem g S) 0 [(0, .ref (qa g o)), (1, .int v1), (2, .int v2)] []
  unfold F5_refusalOfPair at h
  refine q_aload_n C 0 dX5_refusalOfPair_0 rfl rfl ?_
  refine q_iload_n C 1 dX5_refusalOfPair_1 rfl rfl ?_
  refine q_callVi0 C ho.l0 (qmem_o ho.k0 (Nat.le_of_ble_eq_true rfl)) rfl rfl (kX5_hasCrossing o (ho) v1 S) lm5_58 rfl (rest := []) rfl (Nat.le_of_ble_eq_true rfl) dX5_refusalOfPair_2 ⟨rfl, rfl, Nat.le_of_ble_eq_true rfl, Nat.le_of_ble_eq_true rfl, Nat.le_of_ble_eq_true rfl, Nat.le_of_ble_eq_true rfl⟩ ?_
  refine q_if_eq (tgt := 16) C h dX5_refusalOfPair_5 (by decide) (fun h => ?_) (fun h => ?_)
  · refine q_iconst (v := 1) C dX5_refusalOfPair_16 (by decide) ?_
    subst h
    exact q_iret C hr (Nat.le_refl 0) (Nat.le_refl 0) dX5_refusalOfPair_17
  · refine q_aload_n C 0 dX5_refusalOfPair_8 rfl rfl ?_
    refine q_iload_n C 2 dX5_refusalOfPair_9 rfl rfl ?_
    refine q_callVi0 C ho.l0 (qmem_o ho.k0 (Nat.le_of_ble_eq_true rfl)) rfl rfl (kX5_hasCrossing o (ho) v2 S) lm5_58 rfl (rest := []) rfl (Nat.le_of_ble_eq_true rfl) dX5_refusalOfPair_10 ⟨rfl, rfl, Nat.le_of_ble_eq_true rfl, Nat.le_of_ble_eq_true rfl, Nat.le_of_ble_eq_true rfl, Nat.le_of_ble_eq_true rfl⟩ ?_
    refine q_if_ne (tgt := 18) C h dX5_refusalOfPair_13 (by decide) (fun h => ?_) (fun h => ?_)
    · refine q_iload_n C 1 dX5_refusalOfPair_18 rfl rfl ?_
      refine q_iload_n C 2 dX5_refusalOfPair_19 rfl rfl ?_
      refine q_icmp_ne (tgt := 27) C h dX5_refusalOfPair_20 (by decide) (fun h => ?_) (fun h => ?_)
      · refine q_iconst (v := 0) C dX5_refusalOfPair_27 (by decide) ?_
        subst h
        exact q_iret C hr (Nat.le_refl 0) (Nat.le_refl 0) dX5_refusalOfPair_28
      · refine q_iconst (v := 2) C dX5_refusalOfPair_23 (by decide) ?_
        refine q_goto (tgt := 28) C dX5_refusalOfPair_24 (by decide) ?_
        subst h
        exact q_iret C hr (Nat.le_refl 0) (Nat.le_refl 0) dX5_refusalOfPair_28
    · refine q_iconst (v := 1) C dX5_refusalOfPair_16 (by decide) ?_
      subst h
      exact q_iret C hr (Nat.le_refl 0) (Nat.le_refl 0) dX5_refusalOfPair_17
/-! ClosedStreets$Town.hasStreet -/
abbrev rmX5_hasStreet : Room := { frames := 0, cells := 0, slots := 0, locals := 0 }
def F5_hasStreet (o : Nat) (v1 : Int32) (S : qSt) : Int32 := if v1 < 0 then (0) else (if (S o 1) ≤ v1 then (0) else (1))
set_option maxRecDepth 100000 in
set_option maxHeartbeats 4000000 in
theorem kX5_hasStreet {l : Launch} {g : qG} (o : Nat) (ho : tyT o) (v1 : Int32) (S : qSt) : Met l yX5_hasStreet [.code yX5_hasStreet cX5_hasStreet 2 (some .boolean)] rmX5_hasStreet (qPc g NL qT (qmem g S) [.ref (qa g o), .int v1]) (qQi g NL qT (qmem g S) (F5_hasStreet o v1 S)) 0 0 (qA g) := by
  obtain ⟨r, h⟩ : ∃ r, F5_hasStreet o v1 S = r := ⟨_, rfl⟩
  rw [h]
  refine q_met (by decide) (Nat.le_of_ble_eq_true rfl) (fun p e s m args below meth c C hr _ => ?_)
  have C : qC g cX5_hasStreet RX5 2 p s m meth c := C
  show qR g NL qT 2 p l e rmX5_hasStreet s m args below meth c 0 0 (MQ below (qQi g NL qT (qmem g S) r) args s 0 0 (qA g)) (qmem g S) 0 [(0, .ref (qa g o)), (1, .int v1)] []
  unfold F5_hasStreet at h
  refine q_iload_n C 1 dX5_hasStreet_0 rfl rfl ?_
  refine q_if_lt (tgt := 16) C h dX5_hasStreet_1 (by decide) (fun h => ?_) (fun h => ?_)
  · refine q_iconst (v := 0) C dX5_hasStreet_16 (by decide) ?_
    subst h
    exact q_zret C hr (by decide) (Nat.le_refl 0) (Nat.le_refl 0) dX5_hasStreet_17
  · refine q_iload_n C 1 dX5_hasStreet_4 rfl rfl ?_
    refine q_aload_n C 0 dX5_hasStreet_5 rfl rfl ?_
    refine s_geti C lf5_15 ho.l0 ho.k0 dX5_hasStreet_6 ?_
    refine q_icmp_ge (tgt := 16) C h dX5_hasStreet_9 (by decide) (fun h => ?_) (fun h => ?_)
    · refine q_iconst (v := 0) C dX5_hasStreet_16 (by decide) ?_
      subst h
      exact q_zret C hr (by decide) (Nat.le_refl 0) (Nat.le_refl 0) dX5_hasStreet_17
    · refine q_iconst (v := 1) C dX5_hasStreet_12 (by decide) ?_
      refine q_goto (tgt := 17) C dX5_hasStreet_13 (by decide) ?_
      subst h
      exact q_zret C hr (by decide) (Nat.le_refl 0) (Nat.le_refl 0) dX5_hasStreet_17
/-! ClosedStreets$Town.replace -/
abbrev rmX5_replace : Room := { frames := 2, cells := 0, slots := 0, locals := 80 }
def B5_replace_41 (n : Nat) (o : Nat) (v1 : Int32) (v2 : Int32) (v3 : Int32) (v4 : Int32) (S : qSt) : Option qSt := if (F5_hasStreet o v4 S) = 0 then (some S) else (if qin v4 21 = true then obs (qup S (o + 1) v4.toNatClampNeg (if v2 < v1 then v2 else v1)) fun S4 => obs (qup S4 (o + 2) v4.toNatClampNeg (if v1 < v2 then v2 else v1)) fun S5 => obs (qup S5 (o + 3) v4.toNatClampNeg v3) fun S6 => some (qup S6 (o + 4) v4.toNatClampNeg ((0 : Int32) &&& 1)) else none)
set_option maxRecDepth 100000 in
set_option maxHeartbeats 4000000 in
theorem W5_replace_41 {S2 : qSt} (C : qC g cX5_replace RX5 5 p s m meth c) (hr : meth.sig.returnType = none) (n : Nat) (o : Nat) (ho : tyT o) (v1 : Int32) (v2 : Int32) (v3 : Int32) (v4 : Int32) (S : qSt) (h : B5_replace_41 n o v1 v2 v3 v4 S = some S2) : qR g NL qT 5 p l e rmX5_replace s m args below meth c 0 0 (MQ below (qQv g NL qT (qmem g S2)) args s 0 0 (qA g)) (qmem g S) 41 [(0, .ref (qa g o)), (1, .int v1), (2, .int v2), (3, .int v3), (4, .int v4)] [] := by
  unfold B5_replace_41 at h
  refine q_aload_n C 0 dX5_replace_41 rfl rfl ?_
  refine q_iload C 4 dX5_replace_42 rfl ?_
  refine q_callVi0 C ho.l0 (qmem_o ho.k0 (Nat.le_of_ble_eq_true rfl)) rfl rfl (kX5_hasStreet o (ho) v4 S) lm5_42 rfl (rest := []) rfl (Nat.le_of_ble_eq_true rfl) dX5_replace_44 ⟨rfl, rfl, Nat.le_of_ble_eq_true rfl, Nat.le_of_ble_eq_true rfl, Nat.le_of_ble_eq_true rfl, Nat.le_of_ble_eq_true rfl⟩ ?_
  refine q_if_eq (tgt := 90) C h dX5_replace_47 (by decide) (fun h => ?_) (fun h => ?_)
  · obtain rfl := Option.some.inj h
    exact q_vret C hr (Nat.le_refl 0) (Nat.le_refl 0) dX5_replace_90
  · refine q_aload_n C 0 dX5_replace_50 rfl rfl ?_
    refine s_getr (a := (o + 1)) C lf5_24 ho.l0 ho.k0 rfl dX5_replace_51 ?_
    refine q_iload C 4 dX5_replace_54 rfl ?_
    refine q_iload_n C 1 dX5_replace_56 rfl rfl ?_
    refine q_iload_n C 2 dX5_replace_57 rfl rfl ?_
    refine q_mmin C lx5_50 ⟨Nat.le_of_ble_eq_true rfl, Nat.le_of_ble_eq_true rfl, Nat.le_of_ble_eq_true rfl, Nat.le_of_ble_eq_true rfl⟩ dX5_replace_58 ?_
    obtain ⟨hb3, h⟩ := q_if h
    obtain ⟨S4, hS4, h⟩ := obs_e h
    refine s_iast C ho.l1 ho.k1 hb3 dX5_replace_61 ?_
    rw [← hS4]
    refine q_aload_n C 0 dX5_replace_62 rfl rfl ?_
    refine s_getr (a := (o + 2)) C lf5_28 ho.l0 ho.k0 rfl dX5_replace_63 ?_
    refine q_iload C 4 dX5_replace_66 rfl ?_
    refine q_iload_n C 1 dX5_replace_68 rfl rfl ?_
    refine q_iload_n C 2 dX5_replace_69 rfl rfl ?_
    refine q_mmax C lx5_55 ⟨Nat.le_of_ble_eq_true rfl, Nat.le_of_ble_eq_true rfl, Nat.le_of_ble_eq_true rfl, Nat.le_of_ble_eq_true rfl⟩ dX5_replace_70 ?_
    obtain ⟨S5, hS5, h⟩ := obs_e h
    refine s_iast C ho.l2 ho.k2 hb3 dX5_replace_73 ?_
    rw [← hS5]
    refine q_aload_n C 0 dX5_replace_74 rfl rfl ?_
    refine s_getr (a := (o + 3)) C lf5_31 ho.l0 ho.k0 rfl dX5_replace_75 ?_
    refine q_iload C 4 dX5_replace_78 rfl ?_
    refine q_iload_n C 3 dX5_replace_80 rfl rfl ?_
    obtain ⟨S6, hS6, h⟩ := obs_e h
    refine s_iast C ho.l3 ho.k3 hb3 dX5_replace_81 ?_
    rw [← hS6]
    refine q_aload_n C 0 dX5_replace_82 rfl rfl ?_
    refine s_getr (a := (o + 4)) C lf5_34 ho.l0 ho.k0 rfl dX5_replace_83 ?_
    refine q_iload C 4 dX5_replace_86 rfl ?_
    refine q_iconst (v := 0) C dX5_replace_88 (by decide) ?_
    refine s_zast C ho.l4 ho.k4 hb3 dX5_replace_89 ?_
    obtain rfl := Option.some.inj h
    exact q_vret C hr (Nat.le_refl 0) (Nat.le_refl 0) dX5_replace_90
def F5_replace (n : Nat) (o : Nat) (v1 : Int32) (v2 : Int32) (v3 : Int32) (S : qSt) : Option qSt := ob1 (F5_streetJoining n o v1 v2 S) fun r2 => if ¬ r2 = (-999) then (B5_replace_41 n o v1 v2 v3 r2 S) else (if 21 ≤ (S o 1) then (B5_replace_41 n o v1 v2 v3 r2 S) else (obs (qup S o 1 ((S o 1) + 1)) fun S7 => B5_replace_41 n o v1 v2 v3 (S o 1) S7))
set_option maxRecDepth 100000 in
set_option maxHeartbeats 4000000 in
theorem kX5_replace {l : Launch} {g : qG} (n : Nat) (o : Nat) (ho : tyT o) (v1 : Int32) (v2 : Int32) (v3 : Int32) (S : qSt) {S2 : qSt} (h : F5_replace n o v1 v2 v3 S = some S2) : Met l yX5_replace [.code yX5_replace cX5_replace 5 none] rmX5_replace (qPc g NL qT (qmem g S) [.ref (qa g o), .int v1, .int v2, .int v3]) (qQv g NL qT (qmem g S2)) 0 0 (qA g) := by
  refine q_met (by decide) (Nat.le_of_ble_eq_true rfl) (fun p e s m args below meth c C hr _ => ?_)
  have C : qC g cX5_replace RX5 5 p s m meth c := C
  show qR g NL qT 5 p l e rmX5_replace s m args below meth c 0 0 (MQ below (qQv g NL qT (qmem g S2)) args s 0 0 (qA g)) (qmem g S) 0 [(0, .ref (qa g o)), (1, .int v1), (2, .int v2), (3, .int v3)] []
  unfold F5_replace at h
  refine q_aload_n C 0 dX5_replace_0 rfl rfl ?_
  refine q_iload_n C 1 dX5_replace_1 rfl rfl ?_
  refine q_iload_n C 2 dX5_replace_2 rfl rfl ?_
  obtain ⟨r2, hc1, h⟩ := ob1_e h
  refine q_callVi0 C ho.l0 (qmem_o ho.k0 (Nat.le_of_ble_eq_true rfl)) rfl rfl (kX5_streetJoining n o (ho) v1 v2 S hc1) lm5_68 rfl (rest := []) rfl (Nat.le_of_ble_eq_true rfl) dX5_replace_3 ⟨rfl, rfl, Nat.le_of_ble_eq_true rfl, Nat.le_of_ble_eq_true rfl, Nat.le_of_ble_eq_true rfl, Nat.le_of_ble_eq_true rfl⟩ ?_
  refine q_istore C (lv' := [(4, .int r2), (0, .ref (qa g o)), (1, .int v1), (2, .int v2), (3, .int v3)]) dX5_replace_6 (by decide) rfl ?_
  refine q_norm [1, 2, 3, 4, 0] rfl ?_
  refine q_iload C 4 dX5_replace_8 rfl ?_
  refine q_sipush (v := (-999)) C dX5_replace_10 (by decide) ?_
  refine q_icmp_ne (tgt := 41) C h dX5_replace_13 (by decide) (fun h => ?_) (fun h => ?_)
  · exact W5_replace_41 C hr n o ho v1 v2 v3 r2 S h
  · refine q_aload_n C 0 dX5_replace_16 rfl rfl ?_
    refine s_geti C lf5_15 ho.l0 ho.k0 dX5_replace_17 ?_
    refine q_bipush (v := 21) C dX5_replace_20 (by decide) ?_
    refine q_icmp_ge (tgt := 41) C h dX5_replace_22 (by decide) (fun h => ?_) (fun h => ?_)
    · exact W5_replace_41 C hr n o ho v1 v2 v3 r2 S h
    · refine q_aload_n C 0 dX5_replace_25 rfl rfl ?_
      refine s_geti C lf5_15 ho.l0 ho.k0 dX5_replace_26 ?_
      refine q_istore C (lv' := [(4, .int (S o 1)), (0, .ref (qa g o)), (1, .int v1), (2, .int v2), (3, .int v3)]) dX5_replace_29 (by decide) rfl ?_
      refine q_norm [1, 2, 3, 4, 0] rfl ?_
      refine q_aload_n C 0 dX5_replace_31 rfl rfl ?_
      refine q_dup C dX5_replace_32 rfl ?_
      refine s_geti C lf5_15 ho.l0 ho.k0 dX5_replace_33 ?_
      refine q_iconst (v := 1) C dX5_replace_36 (by decide) ?_
      refine q_iadd C dX5_replace_37 ?_
      obtain ⟨S7, hS7, h⟩ := obs_e h
      refine s_puti C lf5_15 ho.l0 ho.k0 dX5_replace_38 ?_
      rw [← hS7]
      exact W5_replace_41 C hr n o ho v1 v2 v3 (S o 1) S7 h
/-! ClosedStreets$Town.join -/
abbrev rmX5_join : Room := { frames := 3, cells := 0, slots := 0, locals := 120 }
def B5_join_48 (n : Nat) (o : Nat) (v1 : Int32) (v2 : Int32) (v3 : Int32) (v4 : Int32) (S : qSt) : Option (Int32 × qSt) := if ¬ v4 = 0 then (some (v4, S)) else (ob1 (F5_replace n o v1 v2 v3 S) fun S2 => some (v4, S2))
set_option maxRecDepth 100000 in
set_option maxHeartbeats 4000000 in
theorem W5_join_48 {r : Int32} {S2 : qSt} (C : qC g cX5_join RX5 5 p s m meth c) (hr : meth.sig.returnType = (some .int)) (n : Nat) (o : Nat) (ho : tyT o) (v1 : Int32) (v2 : Int32) (v3 : Int32) (v4 : Int32) (S : qSt) (h : B5_join_48 n o v1 v2 v3 v4 S = some (r, S2)) : qR g NL qT 5 p l e rmX5_join s m args below meth c 0 0 (MQ below (qQi g NL qT (qmem g S2) r) args s 0 0 (qA g)) (qmem g S) 48 [(0, .ref (qa g o)), (1, .int v1), (2, .int v2), (3, .int v3), (4, .int v4)] [] := by
  unfold B5_join_48 at h
  refine q_iload C 4 dX5_join_48 rfl ?_
  refine q_if_ne (tgt := 60) C h dX5_join_50 (by decide) (fun h => ?_) (fun h => ?_)
  · refine q_iload C 4 dX5_join_60 rfl ?_
    obtain ⟨rfl, rfl⟩ := Prod.mk.inj (Option.some.inj h)
    exact q_iret C hr (Nat.le_refl 0) (Nat.le_refl 0) dX5_join_62
  · refine q_aload_n C 0 dX5_join_53 rfl rfl ?_
    refine q_iload_n C 1 dX5_join_54 rfl rfl ?_
    refine q_iload_n C 2 dX5_join_55 rfl rfl ?_
    refine q_iload_n C 3 dX5_join_56 rfl rfl ?_
    obtain ⟨S2, hc1, h⟩ := ob1_e h
    refine q_callVv0 C ho.l0 (qmem_o ho.k0 (Nat.le_of_ble_eq_true rfl)) rfl rfl (kX5_replace n o (ho) v1 v2 v3 S hc1) lm5_71 rfl (rest := []) rfl (Nat.le_of_ble_eq_true rfl) dX5_join_57 ⟨rfl, rfl, Nat.le_of_ble_eq_true rfl, Nat.le_of_ble_eq_true rfl, Nat.le_of_ble_eq_true rfl, Nat.le_of_ble_eq_true rfl⟩ ?_
    refine q_iload C 4 dX5_join_60 rfl ?_
    obtain ⟨rfl, rfl⟩ := Prod.mk.inj (Option.some.inj h)
    exact q_iret C hr (Nat.le_refl 0) (Nat.le_refl 0) dX5_join_62
def B5_join_45 (n : Nat) (o : Nat) (v1 : Int32) (v2 : Int32) (v3 : Int32) (S : qSt) : Option (Int32 × qSt) := B5_join_48 n o v1 v2 v3 3 S
set_option maxRecDepth 100000 in
set_option maxHeartbeats 4000000 in
theorem W5_join_45 {r : Int32} {S2 : qSt} (C : qC g cX5_join RX5 5 p s m meth c) (hr : meth.sig.returnType = (some .int)) (n : Nat) (o : Nat) (ho : tyT o) (v1 : Int32) (v2 : Int32) (v3 : Int32) (S : qSt) (h : B5_join_45 n o v1 v2 v3 S = some (r, S2)) : qR g NL qT 5 p l e rmX5_join s m args below meth c 0 0 (MQ below (qQi g NL qT (qmem g S2) r) args s 0 0 (qA g)) (qmem g S) 45 [(0, .ref (qa g o)), (1, .int v1), (2, .int v2), (3, .int v3)] [] := by
  unfold B5_join_45 at h
  refine q_iconst (v := 3) C dX5_join_45 (by decide) ?_
  refine q_istore C (lv' := [(4, .int 3), (0, .ref (qa g o)), (1, .int v1), (2, .int v2), (3, .int v3)]) dX5_join_46 (by decide) rfl ?_
  refine q_norm [1, 2, 3, 4, 0] rfl ?_
  exact W5_join_48 C hr n o ho v1 v2 v3 3 S h
def B5_join_19 (n : Nat) (o : Nat) (v1 : Int32) (v2 : Int32) (v3 : Int32) (v4 : Int32) (S : qSt) : Option (Int32 × qSt) := if ¬ v4 = 0 then (B5_join_48 n o v1 v2 v3 v4 S) else (if 20 ≤ (S o 1) then (B5_join_45 n o v1 v2 v3 S) else (ob1 (F5_streetJoining n o v1 v2 S) fun r4 => if r4 = (-999) then (B5_join_48 n o v1 v2 v3 v4 S) else (B5_join_45 n o v1 v2 v3 S)))
set_option maxRecDepth 100000 in
set_option maxHeartbeats 4000000 in
theorem W5_join_19 {r : Int32} {S2 : qSt} (C : qC g cX5_join RX5 5 p s m meth c) (hr : meth.sig.returnType = (some .int)) (n : Nat) (o : Nat) (ho : tyT o) (v1 : Int32) (v2 : Int32) (v3 : Int32) (v4 : Int32) (S : qSt) (h : B5_join_19 n o v1 v2 v3 v4 S = some (r, S2)) : qR g NL qT 5 p l e rmX5_join s m args below meth c 0 0 (MQ below (qQi g NL qT (qmem g S2) r) args s 0 0 (qA g)) (qmem g S) 19 [(0, .ref (qa g o)), (1, .int v1), (2, .int v2), (3, .int v3), (4, .int v4)] [] := by
  unfold B5_join_19 at h
  refine q_iload C 4 dX5_join_19 rfl ?_
  refine q_if_ne (tgt := 48) C h dX5_join_21 (by decide) (fun h => ?_) (fun h => ?_)
  · exact W5_join_48 C hr n o ho v1 v2 v3 v4 S h
  · refine q_aload_n C 0 dX5_join_24 rfl rfl ?_
    refine s_geti C lf5_15 ho.l0 ho.k0 dX5_join_25 ?_
    refine q_bipush (v := 20) C dX5_join_28 (by decide) ?_
    refine q_icmp_ge (tgt := 45) C h dX5_join_30 (by decide) (fun h => ?_) (fun h => ?_)
    · refine q_norm [0, 1, 2, 3] rfl ?_
      exact W5_join_45 C hr n o ho v1 v2 v3 S h
    · refine q_aload_n C 0 dX5_join_33 rfl rfl ?_
      refine q_iload_n C 1 dX5_join_34 rfl rfl ?_
      refine q_iload_n C 2 dX5_join_35 rfl rfl ?_
      obtain ⟨r4, hc3, h⟩ := ob1_e h
      refine q_callVi0 C ho.l0 (qmem_o ho.k0 (Nat.le_of_ble_eq_true rfl)) rfl rfl (kX5_streetJoining n o (ho) v1 v2 S hc3) lm5_68 rfl (rest := []) rfl (Nat.le_of_ble_eq_true rfl) dX5_join_36 ⟨rfl, rfl, Nat.le_of_ble_eq_true rfl, Nat.le_of_ble_eq_true rfl, Nat.le_of_ble_eq_true rfl, Nat.le_of_ble_eq_true rfl⟩ ?_
      refine q_sipush (v := (-999)) C dX5_join_39 (by decide) ?_
      refine q_icmp_eq (tgt := 48) C h dX5_join_42 (by decide) (fun h => ?_) (fun h => ?_)
      · exact W5_join_48 C hr n o ho v1 v2 v3 v4 S h
      · refine q_norm [0, 1, 2, 3] rfl ?_
        exact W5_join_45 C hr n o ho v1 v2 v3 S h
def F5_join (n : Nat) (o : Nat) (v1 : Int32) (v2 : Int32) (v3 : Int32) (S : qSt) : Option (Int32 × qSt) := if ¬ (F5_refusalOfPair o v1 v2 S) = 0 then (B5_join_19 n o v1 v2 v3 (F5_refusalOfPair o v1 v2 S) S) else (B5_join_19 n o v1 v2 v3 (F7_refusalOfLength v3 S) S)
set_option maxRecDepth 100000 in
set_option maxHeartbeats 4000000 in
theorem kX5_join {l : Launch} {g : qG} (n : Nat) (o : Nat) (ho : tyT o) (v1 : Int32) (v2 : Int32) (v3 : Int32) (S : qSt) {r : Int32} {S2 : qSt} (h : F5_join n o v1 v2 v3 S = some (r, S2)) : Met l yX5_join [.code yX5_join cX5_join 5 (some .int)] rmX5_join (qPc g NL qT (qmem g S) [.ref (qa g o), .int v1, .int v2, .int v3]) (qQi g NL qT (qmem g S2) r) 0 0 (qA g) := by
  refine q_met (by decide) (Nat.le_of_ble_eq_true rfl) (fun p e s m args below meth c C hr _ => ?_)
  have C : qC g cX5_join RX5 5 p s m meth c := C
  show qR g NL qT 5 p l e rmX5_join s m args below meth c 0 0 (MQ below (qQi g NL qT (qmem g S2) r) args s 0 0 (qA g)) (qmem g S) 0 [(0, .ref (qa g o)), (1, .int v1), (2, .int v2), (3, .int v3)] []
  unfold F5_join at h
  refine q_aload_n C 0 dX5_join_0 rfl rfl ?_
  refine q_iload_n C 1 dX5_join_1 rfl rfl ?_
  refine q_iload_n C 2 dX5_join_2 rfl rfl ?_
  refine q_callVi0 C ho.l0 (qmem_o ho.k0 (Nat.le_of_ble_eq_true rfl)) rfl rfl (kX5_refusalOfPair o (ho) v1 v2 S) lm5_61 rfl (rest := []) rfl (Nat.le_of_ble_eq_true rfl) dX5_join_3 ⟨rfl, rfl, Nat.le_of_ble_eq_true rfl, Nat.le_of_ble_eq_true rfl, Nat.le_of_ble_eq_true rfl, Nat.le_of_ble_eq_true rfl⟩ ?_
  refine q_istore C (lv' := [(4, .int (F5_refusalOfPair o v1 v2 S)), (0, .ref (qa g o)), (1, .int v1), (2, .int v2), (3, .int v3)]) dX5_join_6 (by decide) rfl ?_
  refine q_norm [1, 2, 3, 4, 0] rfl ?_
  refine q_iload C 4 dX5_join_8 rfl ?_
  refine q_if_ne (tgt := 19) C h dX5_join_10 (by decide) (fun h => ?_) (fun h => ?_)
  · exact W5_join_19 C hr n o ho v1 v2 v3 (F5_refusalOfPair o v1 v2 S) S h
  · refine q_iload_n C 3 dX5_join_13 rfl rfl ?_
    refine q_callSNi0 C (kX7_refusalOfLength v3 S) lm5_64 rfl (rest := []) rfl (Nat.le_of_ble_eq_true rfl) dX5_join_14 ⟨rfl, rfl, Nat.le_of_ble_eq_true rfl, Nat.le_of_ble_eq_true rfl, Nat.le_of_ble_eq_true rfl, Nat.le_of_ble_eq_true rfl⟩ ?_
    refine q_istore C (lv' := [(4, .int (F7_refusalOfLength v3 S)), (0, .ref (qa g o)), (1, .int v1), (2, .int v2), (3, .int v3)]) dX5_join_17 (by decide) rfl ?_
    refine q_norm [1, 2, 3, 4, 0] rfl ?_
    exact W5_join_19 C hr n o ho v1 v2 v3 (F7_refusalOfLength v3 S) S h
/-! ClosedStreets$Town.shut -/
abbrev rmX5_shut : Room := { frames := 1, cells := 0, slots := 0, locals := 40 }
def F5_shut (o : Nat) (v1 : Int32) (v2 : Int32) (S : qSt) : Option (Int32 × qSt) := if ¬ (F5_hasStreet o v1 S) = 0 then (if qin v1 21 = true then obs (qup S (o + 4) v1.toNatClampNeg (v2 &&& 1)) fun S2 => some (0, S2) else none) else (some (1, S))
set_option maxRecDepth 100000 in
set_option maxHeartbeats 4000000 in
theorem kX5_shut {l : Launch} {g : qG} (o : Nat) (ho : tyT o) (v1 : Int32) (v2 : Int32) (S : qSt) {r : Int32} {S2 : qSt} (h : F5_shut o v1 v2 S = some (r, S2)) : Met l yX5_shut [.code yX5_shut cX5_shut 3 (some .int)] rmX5_shut (qPc g NL qT (qmem g S) [.ref (qa g o), .int v1, .int v2]) (qQi g NL qT (qmem g S2) r) 0 0 (qA g) := by
  refine q_met (by decide) (Nat.le_of_ble_eq_true rfl) (fun p e s m args below meth c C hr _ => ?_)
  have C : qC g cX5_shut RX5 3 p s m meth c := C
  show qR g NL qT 3 p l e rmX5_shut s m args below meth c 0 0 (MQ below (qQi g NL qT (qmem g S2) r) args s 0 0 (qA g)) (qmem g S) 0 [(0, .ref (qa g o)), (1, .int v1), (2, .int v2)] []
  unfold F5_shut at h
  refine q_aload_n C 0 dX5_shut_0 rfl rfl ?_
  refine q_iload_n C 1 dX5_shut_1 rfl rfl ?_
  refine q_callVi0 C ho.l0 (qmem_o ho.k0 (Nat.le_of_ble_eq_true rfl)) rfl rfl (kX5_hasStreet o (ho) v1 S) lm5_42 rfl (rest := []) rfl (Nat.le_of_ble_eq_true rfl) dX5_shut_2 ⟨rfl, rfl, Nat.le_of_ble_eq_true rfl, Nat.le_of_ble_eq_true rfl, Nat.le_of_ble_eq_true rfl, Nat.le_of_ble_eq_true rfl⟩ ?_
  refine q_if_ne (tgt := 10) C h dX5_shut_5 (by decide) (fun h => ?_) (fun h => ?_)
  · refine q_aload_n C 0 dX5_shut_10 rfl rfl ?_
    refine s_getr (a := (o + 4)) C lf5_34 ho.l0 ho.k0 rfl dX5_shut_11 ?_
    refine q_iload_n C 1 dX5_shut_14 rfl rfl ?_
    refine q_iload_n C 2 dX5_shut_15 rfl rfl ?_
    obtain ⟨hb1, h⟩ := q_if h
    obtain ⟨S2, hS2, h⟩ := obs_e h
    refine s_zast C ho.l4 ho.k4 hb1 dX5_shut_16 ?_
    rw [← hS2]
    refine q_iconst (v := 0) C dX5_shut_17 (by decide) ?_
    obtain ⟨rfl, rfl⟩ := Prod.mk.inj (Option.some.inj h)
    exact q_iret C hr (Nat.le_refl 0) (Nat.le_refl 0) dX5_shut_18
  · refine q_iconst (v := 1) C dX5_shut_8 (by decide) ?_
    obtain ⟨rfl, rfl⟩ := Prod.mk.inj (Option.some.inj h)
    exact q_iret C hr (Nat.le_refl 0) (Nat.le_refl 0) dX5_shut_9
/-! ClosedStreets$Town.copyStreet -/
abbrev rmX5_copyStreet : Room := { frames := 0, cells := 0, slots := 0, locals := 0 }
def F5_copyStreet (o : Nat) (a1 : Nat) (v2 : Int32) (v3 : Int32) (S : qSt) : Option qSt := if qin v2 21 = true then if qin v3 21 = true then obs (qup S (o + 1) v3.toNatClampNeg (S (a1 + 1) v2.toNatClampNeg)) fun S3 => obs (qup S3 (o + 2) v3.toNatClampNeg (S3 (a1 + 2) v2.toNatClampNeg)) fun S4 => obs (qup S4 (o + 3) v3.toNatClampNeg (S4 (a1 + 3) v2.toNatClampNeg)) fun S5 => some (qup S5 (o + 4) v3.toNatClampNeg ((S5 (a1 + 4) v2.toNatClampNeg) &&& 1)) else none else none
set_option maxRecDepth 100000 in
set_option maxHeartbeats 4000000 in
theorem kX5_copyStreet {l : Launch} {g : qG} (o : Nat) (ho : tyT o) (a1 : Nat) (ha1 : tyT a1) (v2 : Int32) (v3 : Int32) (S : qSt) {S2 : qSt} (h : F5_copyStreet o a1 v2 v3 S = some S2) : Met l yX5_copyStreet [.code yX5_copyStreet cX5_copyStreet 4 none] rmX5_copyStreet (qPc g NL qT (qmem g S) [.ref (qa g o), .ref (qa g a1), .int v2, .int v3]) (qQv g NL qT (qmem g S2)) 0 0 (qA g) := by
  refine q_met (by decide) (Nat.le_of_ble_eq_true rfl) (fun p e s m args below meth c C hr _ => ?_)
  have C : qC g cX5_copyStreet RX5 4 p s m meth c := C
  show qR g NL qT 4 p l e rmX5_copyStreet s m args below meth c 0 0 (MQ below (qQv g NL qT (qmem g S2)) args s 0 0 (qA g)) (qmem g S) 0 [(0, .ref (qa g o)), (1, .ref (qa g a1)), (2, .int v2), (3, .int v3)] []
  unfold F5_copyStreet at h
  refine q_aload_n C 0 dX5_copyStreet_0 rfl rfl ?_
  refine s_getr (a := (o + 1)) C lf5_24 ho.l0 ho.k0 rfl dX5_copyStreet_1 ?_
  refine q_iload_n C 3 dX5_copyStreet_4 rfl rfl ?_
  refine q_aload_n C 1 dX5_copyStreet_5 rfl rfl ?_
  refine s_getr (a := (a1 + 1)) C lf5_24 ha1.l0 ha1.k0 rfl dX5_copyStreet_6 ?_
  refine q_iload_n C 2 dX5_copyStreet_9 rfl rfl ?_
  obtain ⟨hb1, h⟩ := q_if h
  refine s_iald C ha1.l1 ha1.k1 hb1 dX5_copyStreet_10 ?_
  obtain ⟨hb2, h⟩ := q_if h
  obtain ⟨S3, hS3, h⟩ := obs_e h
  refine s_iast C ho.l1 ho.k1 hb2 dX5_copyStreet_11 ?_
  rw [← hS3]
  refine q_aload_n C 0 dX5_copyStreet_12 rfl rfl ?_
  refine s_getr (a := (o + 2)) C lf5_28 ho.l0 ho.k0 rfl dX5_copyStreet_13 ?_
  refine q_iload_n C 3 dX5_copyStreet_16 rfl rfl ?_
  refine q_aload_n C 1 dX5_copyStreet_17 rfl rfl ?_
  refine s_getr (a := (a1 + 2)) C lf5_28 ha1.l0 ha1.k0 rfl dX5_copyStreet_18 ?_
  refine q_iload_n C 2 dX5_copyStreet_21 rfl rfl ?_
  refine s_iald C ha1.l2 ha1.k2 hb1 dX5_copyStreet_22 ?_
  obtain ⟨S4, hS4, h⟩ := obs_e h
  refine s_iast C ho.l2 ho.k2 hb2 dX5_copyStreet_23 ?_
  rw [← hS4]
  refine q_aload_n C 0 dX5_copyStreet_24 rfl rfl ?_
  refine s_getr (a := (o + 3)) C lf5_31 ho.l0 ho.k0 rfl dX5_copyStreet_25 ?_
  refine q_iload_n C 3 dX5_copyStreet_28 rfl rfl ?_
  refine q_aload_n C 1 dX5_copyStreet_29 rfl rfl ?_
  refine s_getr (a := (a1 + 3)) C lf5_31 ha1.l0 ha1.k0 rfl dX5_copyStreet_30 ?_
  refine q_iload_n C 2 dX5_copyStreet_33 rfl rfl ?_
  refine s_iald C ha1.l3 ha1.k3 hb1 dX5_copyStreet_34 ?_
  obtain ⟨S5, hS5, h⟩ := obs_e h
  refine s_iast C ho.l3 ho.k3 hb2 dX5_copyStreet_35 ?_
  rw [← hS5]
  refine q_aload_n C 0 dX5_copyStreet_36 rfl rfl ?_
  refine s_getr (a := (o + 4)) C lf5_34 ho.l0 ho.k0 rfl dX5_copyStreet_37 ?_
  refine q_iload_n C 3 dX5_copyStreet_40 rfl rfl ?_
  refine q_aload_n C 1 dX5_copyStreet_41 rfl rfl ?_
  refine s_getr (a := (a1 + 4)) C lf5_34 ha1.l0 ha1.k0 rfl dX5_copyStreet_42 ?_
  refine q_iload_n C 2 dX5_copyStreet_45 rfl rfl ?_
  refine s_zald C ha1.l4 ha1.k4 hb1 dX5_copyStreet_46 ?_
  refine s_zast C ho.l4 ho.k4 hb2 dX5_copyStreet_47 ?_
  obtain rfl := Option.some.inj h
  exact q_vret C hr (Nat.le_refl 0) (Nat.le_refl 0) dX5_copyStreet_48
/-! ClosedStreets$Town.copyFrom -/
abbrev rmX5_copyFrom : Room := { frames := 1, cells := 0, slots := 0, locals := 40 }
def B5_copyFrom_34 (n : Nat) (o : Nat) (a1 : Nat) : Nat → Int32 → qSt → Option qSt
  | 0, _, _ => none
  | n9 + 1, v2, S => if (S o 1) ≤ v2 then (some S) else (ob1 (F5_copyStreet o a1 v2 v2 S) fun S6 => (B5_copyFrom_34 n o a1 n9) (v2 + 1) S6)
set_option maxRecDepth 100000 in
set_option maxHeartbeats 4000000 in
theorem W5_copyFrom_34 {S2 : qSt} (C : qC g cX5_copyFrom RX5 3 p s m meth c) (hr : meth.sig.returnType = none) (n : Nat) (o : Nat) (ho : tyT o) (a1 : Nat) (ha1 : tyT a1) : ∀ (n9 : Nat) (v2 : Int32) (S : qSt), B5_copyFrom_34 n o a1 n9 v2 S = some S2 → qR g NL qT 3 p l e rmX5_copyFrom s m args below meth c 0 0 (MQ below (qQv g NL qT (qmem g S2)) args s 0 0 (qA g)) (qmem g S) 34 [(0, .ref (qa g o)), (1, .ref (qa g a1)), (2, .int v2)] [] := by
  intro n9
  induction n9 with
  | zero =>
    intro v2 S h
    have h9 : (none : Option qSt) = some S2 := h
    cases h9
  | succ n9 ih =>
    intro v2 S h
    rw [B5_copyFrom_34] at h
    refine q_iload_n C 2 dX5_copyFrom_34 rfl rfl ?_
    refine q_aload_n C 0 dX5_copyFrom_35 rfl rfl ?_
    refine s_geti C lf5_15 ho.l0 ho.k0 dX5_copyFrom_36 ?_
    refine q_icmp_ge (tgt := 55) C h dX5_copyFrom_39 (by decide) (fun h => ?_) (fun h => ?_)
    · obtain rfl := Option.some.inj h
      exact q_vret C hr (Nat.le_refl 0) (Nat.le_refl 0) dX5_copyFrom_55
    · refine q_aload_n C 0 dX5_copyFrom_42 rfl rfl ?_
      refine q_aload_n C 1 dX5_copyFrom_43 rfl rfl ?_
      refine q_iload_n C 2 dX5_copyFrom_44 rfl rfl ?_
      refine q_iload_n C 2 dX5_copyFrom_45 rfl rfl ?_
      obtain ⟨S6, hc5, h⟩ := ob1_e h
      refine q_callVv0 C ho.l0 (qmem_o ho.k0 (Nat.le_of_ble_eq_true rfl)) rfl rfl (kX5_copyStreet o (ho) a1 (ha1) v2 v2 S hc5) lm5_38 rfl (rest := []) rfl (Nat.le_of_ble_eq_true rfl) dX5_copyFrom_46 ⟨rfl, rfl, Nat.le_of_ble_eq_true rfl, Nat.le_of_ble_eq_true rfl, Nat.le_of_ble_eq_true rfl, Nat.le_of_ble_eq_true rfl⟩ ?_
      refine q_iinc C 2 (v := v2 + 1) (lv' := [(2, .int (v2 + 1)), (0, .ref (qa g o)), (1, .ref (qa g a1))]) dX5_copyFrom_49 rfl rfl (by decide) rfl ?_
      refine q_norm [1, 2, 0] rfl ?_
      refine q_goto (tgt := 34) C dX5_copyFrom_52 (by decide) ?_
      exact ih (v2 + 1) S6 h
def F5_copyFrom (n : Nat) (o : Nat) (a1 : Nat) (S : qSt) : Option qSt := obs (qup S o 0 (S a1 0)) fun S1 => obs (qup S1 o 1 (S1 a1 1)) fun S2 => obs (qup S2 o 2 (S2 a1 2)) fun S3 => obs (qup S3 o 3 (S3 a1 3)) fun S4 => B5_copyFrom_34 n o a1 n 0 S4
set_option maxRecDepth 100000 in
set_option maxHeartbeats 4000000 in
theorem kX5_copyFrom {l : Launch} {g : qG} (n : Nat) (o : Nat) (ho : tyT o) (a1 : Nat) (ha1 : tyT a1) (S : qSt) {S2 : qSt} (h : F5_copyFrom n o a1 S = some S2) : Met l yX5_copyFrom [.code yX5_copyFrom cX5_copyFrom 3 none] rmX5_copyFrom (qPc g NL qT (qmem g S) [.ref (qa g o), .ref (qa g a1)]) (qQv g NL qT (qmem g S2)) 0 0 (qA g) := by
  refine q_met (by decide) (Nat.le_of_ble_eq_true rfl) (fun p e s m args below meth c C hr _ => ?_)
  have C : qC g cX5_copyFrom RX5 3 p s m meth c := C
  show qR g NL qT 3 p l e rmX5_copyFrom s m args below meth c 0 0 (MQ below (qQv g NL qT (qmem g S2)) args s 0 0 (qA g)) (qmem g S) 0 [(0, .ref (qa g o)), (1, .ref (qa g a1))] []
  unfold F5_copyFrom at h
  refine q_aload_n C 0 dX5_copyFrom_0 rfl rfl ?_
  refine q_aload_n C 1 dX5_copyFrom_1 rfl rfl ?_
  refine s_geti C lf5_9 ha1.l0 ha1.k0 dX5_copyFrom_2 ?_
  obtain ⟨S1, hS1, h⟩ := obs_e h
  refine s_puti C lf5_9 ho.l0 ho.k0 dX5_copyFrom_5 ?_
  rw [← hS1]
  refine q_aload_n C 0 dX5_copyFrom_8 rfl rfl ?_
  refine q_aload_n C 1 dX5_copyFrom_9 rfl rfl ?_
  refine s_geti C lf5_15 ha1.l0 ha1.k0 dX5_copyFrom_10 ?_
  obtain ⟨S2, hS2, h⟩ := obs_e h
  refine s_puti C lf5_15 ho.l0 ho.k0 dX5_copyFrom_13 ?_
  rw [← hS2]
  refine q_aload_n C 0 dX5_copyFrom_16 rfl rfl ?_
  refine q_aload_n C 1 dX5_copyFrom_17 rfl rfl ?_
  refine s_geti C lf5_18 ha1.l0 ha1.k0 dX5_copyFrom_18 ?_
  obtain ⟨S3, hS3, h⟩ := obs_e h
  refine s_puti C lf5_18 ho.l0 ho.k0 dX5_copyFrom_21 ?_
  rw [← hS3]
  refine q_aload_n C 0 dX5_copyFrom_24 rfl rfl ?_
  refine q_aload_n C 1 dX5_copyFrom_25 rfl rfl ?_
  refine s_geti C lf5_21 ha1.l0 ha1.k0 dX5_copyFrom_26 ?_
  obtain ⟨S4, hS4, h⟩ := obs_e h
  refine s_puti C lf5_21 ho.l0 ho.k0 dX5_copyFrom_29 ?_
  rw [← hS4]
  refine q_iconst (v := 0) C dX5_copyFrom_32 (by decide) ?_
  refine q_istore_n C (lv' := [(2, .int 0), (0, .ref (qa g o)), (1, .ref (qa g a1))]) dX5_copyFrom_33 rfl (by decide) rfl ?_
  refine q_norm [1, 2, 0] rfl ?_
  exact W5_copyFrom_34 C hr n o ho a1 ha1 n 0 S4 h
/-! ClosedStreets$Town.closedStreets -/
abbrev rmX5_closedStreets : Room := { frames := 0, cells := 0, slots := 0, locals := 0 }
def B5_closedStreets_24 (n : Nat) (o : Nat) (K4 : Int32 → Int32 → qSt → Option Int32) (v1 : Int32) (v2 : Int32) (S : qSt) : Option Int32 := K4 v1 (v2 + 1) S
set_option maxRecDepth 100000 in
set_option maxHeartbeats 4000000 in
theorem W5_closedStreets_24 {r : Int32} (C : qC g cX5_closedStreets RX5 3 p s m meth c) (hr : meth.sig.returnType = (some .int)) (n : Nat) (o : Nat) (ho : tyT o) (K4 : Int32 → Int32 → qSt → Option Int32) (hK4 : ∀ (v1 : Int32) (v2 : Int32) (S : qSt), K4 v1 v2 S = some r → qR g NL qT 3 p l e rmX5_closedStreets s m args below meth c 0 0 (MQ below (qQi g NL qT (qmem g S) r) args s 0 0 (qA g)) (qmem g S) 4 [(0, .ref (qa g o)), (1, .int v1), (2, .int v2)] []) (v1 : Int32) (v2 : Int32) (S : qSt) (h : B5_closedStreets_24 n o K4 v1 v2 S = some r) : qR g NL qT 3 p l e rmX5_closedStreets s m args below meth c 0 0 (MQ below (qQi g NL qT (qmem g S) r) args s 0 0 (qA g)) (qmem g S) 24 [(0, .ref (qa g o)), (1, .int v1), (2, .int v2)] [] := by
  unfold B5_closedStreets_24 at h
  refine q_iinc C 2 (v := v2 + 1) (lv' := [(2, .int (v2 + 1)), (0, .ref (qa g o)), (1, .int v1)]) dX5_closedStreets_24 rfl rfl (by decide) rfl ?_
  refine q_norm [1, 2, 0] rfl ?_
  refine q_goto (tgt := 4) C dX5_closedStreets_27 (by decide) ?_
  exact hK4 v1 (v2 + 1) S h
def B5_closedStreets_4 (n : Nat) (o : Nat) : Nat → Int32 → Int32 → qSt → Option Int32
  | 0, _, _, _ => none
  | n9 + 1, v1, v2, S => if (S o 1) ≤ v2 then (some v1) else (if qin v2 21 = true then if (S (o + 4) v2.toNatClampNeg) = 0 then (B5_closedStreets_24 n o (B5_closedStreets_4 n o n9) v1 v2 S) else (B5_closedStreets_24 n o (B5_closedStreets_4 n o n9) (v1 + 1) v2 S) else none)
set_option maxRecDepth 100000 in
set_option maxHeartbeats 4000000 in
theorem W5_closedStreets_4 {r : Int32} (C : qC g cX5_closedStreets RX5 3 p s m meth c) (hr : meth.sig.returnType = (some .int)) (n : Nat) (o : Nat) (ho : tyT o) : ∀ (n9 : Nat) (v1 : Int32) (v2 : Int32) (S : qSt), B5_closedStreets_4 n o n9 v1 v2 S = some r → qR g NL qT 3 p l e rmX5_closedStreets s m args below meth c 0 0 (MQ below (qQi g NL qT (qmem g S) r) args s 0 0 (qA g)) (qmem g S) 4 [(0, .ref (qa g o)), (1, .int v1), (2, .int v2)] [] := by
  intro n9
  induction n9 with
  | zero =>
    intro v1 v2 S h
    have h9 : (none : Option Int32) = some r := h
    cases h9
  | succ n9 ih =>
    intro v1 v2 S h
    rw [B5_closedStreets_4] at h
    refine q_iload_n C 2 dX5_closedStreets_4 rfl rfl ?_
    refine q_aload_n C 0 dX5_closedStreets_5 rfl rfl ?_
    refine s_geti C lf5_15 ho.l0 ho.k0 dX5_closedStreets_6 ?_
    refine q_icmp_ge (tgt := 30) C h dX5_closedStreets_9 (by decide) (fun h => ?_) (fun h => ?_)
    · refine q_iload_n C 1 dX5_closedStreets_30 rfl rfl ?_
      obtain rfl := Option.some.inj h
      exact q_iret C hr (Nat.le_refl 0) (Nat.le_refl 0) dX5_closedStreets_31
    · refine q_aload_n C 0 dX5_closedStreets_12 rfl rfl ?_
      refine s_getr (a := (o + 4)) C lf5_34 ho.l0 ho.k0 rfl dX5_closedStreets_13 ?_
      refine q_iload_n C 2 dX5_closedStreets_16 rfl rfl ?_
      obtain ⟨hb1, h⟩ := q_if h
      refine s_zald C ho.l4 ho.k4 hb1 dX5_closedStreets_17 ?_
      refine q_if_eq (tgt := 24) C h dX5_closedStreets_18 (by decide) (fun h => ?_) (fun h => ?_)
      · exact W5_closedStreets_24 C hr n o ho (B5_closedStreets_4 n o n9) ih v1 v2 S h
      · refine q_iinc C 1 (v := v1 + 1) (lv' := [(1, .int (v1 + 1)), (0, .ref (qa g o)), (2, .int v2)]) dX5_closedStreets_21 rfl rfl (by decide) rfl ?_
        refine q_norm [1, 0, 2] rfl ?_
        exact W5_closedStreets_24 C hr n o ho (B5_closedStreets_4 n o n9) ih (v1 + 1) v2 S h
def F5_closedStreets (n : Nat) (o : Nat) (S : qSt) : Option Int32 := B5_closedStreets_4 n o n 0 0 S
set_option maxRecDepth 100000 in
set_option maxHeartbeats 4000000 in
theorem kX5_closedStreets {l : Launch} {g : qG} (n : Nat) (o : Nat) (ho : tyT o) (S : qSt) {r : Int32} (h : F5_closedStreets n o S = some r) : Met l yX5_closedStreets [.code yX5_closedStreets cX5_closedStreets 3 (some .int)] rmX5_closedStreets (qPc g NL qT (qmem g S) [.ref (qa g o)]) (qQi g NL qT (qmem g S) r) 0 0 (qA g) := by
  refine q_met (by decide) (Nat.le_of_ble_eq_true rfl) (fun p e s m args below meth c C hr _ => ?_)
  have C : qC g cX5_closedStreets RX5 3 p s m meth c := C
  show qR g NL qT 3 p l e rmX5_closedStreets s m args below meth c 0 0 (MQ below (qQi g NL qT (qmem g S) r) args s 0 0 (qA g)) (qmem g S) 0 [(0, .ref (qa g o))] []
  unfold F5_closedStreets at h
  refine q_iconst (v := 0) C dX5_closedStreets_0 (by decide) ?_
  refine q_istore_n C (lv' := [(1, .int 0), (0, .ref (qa g o))]) dX5_closedStreets_1 rfl (by decide) rfl ?_
  refine q_norm [1, 0] rfl ?_
  refine q_iconst (v := 0) C dX5_closedStreets_2 (by decide) ?_
  refine q_istore_n C (lv' := [(2, .int 0), (0, .ref (qa g o)), (1, .int 0)]) dX5_closedStreets_3 rfl (by decide) rfl ?_
  refine q_norm [1, 2, 0] rfl ?_
  exact W5_closedStreets_4 C hr n o ho n 0 0 S h
/-! ClosedStreets$Town.reachedThrough -/
abbrev rmX5_reachedThrough : Room := { frames := 1, cells := 0, slots := 0, locals := 40 }
def F5_reachedThrough (o : Nat) (v1 : Int32) (v2 : Int32) (S : qSt) : Option Int32 := if (F5_hasStreet o v1 S) = 0 then (some (-999)) else (if qin v1 21 = true then if (S (o + 4) v1.toNatClampNeg) = 0 then (if ¬ (S (o + 1) v1.toNatClampNeg) = v2 then (if ¬ (S (o + 2) v1.toNatClampNeg) = v2 then (some (-999)) else (some (S (o + 1) v1.toNatClampNeg))) else (some (S (o + 2) v1.toNatClampNeg))) else (some (-999)) else none)
set_option maxRecDepth 100000 in
set_option maxHeartbeats 4000000 in
theorem kX5_reachedThrough {l : Launch} {g : qG} (o : Nat) (ho : tyT o) (v1 : Int32) (v2 : Int32) (S : qSt) {r : Int32} (h : F5_reachedThrough o v1 v2 S = some r) : Met l yX5_reachedThrough [.code yX5_reachedThrough cX5_reachedThrough 3 (some .int)] rmX5_reachedThrough (qPc g NL qT (qmem g S) [.ref (qa g o), .int v1, .int v2]) (qQi g NL qT (qmem g S) r) 0 0 (qA g) := by
  refine q_met (by decide) (Nat.le_of_ble_eq_true rfl) (fun p e s m args below meth c C hr _ => ?_)
  have C : qC g cX5_reachedThrough RX5 3 p s m meth c := C
  show qR g NL qT 3 p l e rmX5_reachedThrough s m args below meth c 0 0 (MQ below (qQi g NL qT (qmem g S) r) args s 0 0 (qA g)) (qmem g S) 0 [(0, .ref (qa g o)), (1, .int v1), (2, .int v2)] []
  unfold F5_reachedThrough at h
  refine q_aload_n C 0 dX5_reachedThrough_0 rfl rfl ?_
  refine q_iload_n C 1 dX5_reachedThrough_1 rfl rfl ?_
  refine q_callVi0 C ho.l0 (qmem_o ho.k0 (Nat.le_of_ble_eq_true rfl)) rfl rfl (kX5_hasStreet o (ho) v1 S) lm5_42 rfl (rest := []) rfl (Nat.le_of_ble_eq_true rfl) dX5_reachedThrough_2 ⟨rfl, rfl, Nat.le_of_ble_eq_true rfl, Nat.le_of_ble_eq_true rfl, Nat.le_of_ble_eq_true rfl, Nat.le_of_ble_eq_true rfl⟩ ?_
  refine q_if_eq (tgt := 17) C h dX5_reachedThrough_5 (by decide) (fun h => ?_) (fun h => ?_)
  · refine q_sipush (v := (-999)) C dX5_reachedThrough_17 (by decide) ?_
    obtain rfl := Option.some.inj h
    exact q_iret C hr (Nat.le_refl 0) (Nat.le_refl 0) dX5_reachedThrough_20
  · refine q_aload_n C 0 dX5_reachedThrough_8 rfl rfl ?_
    refine s_getr (a := (o + 4)) C lf5_34 ho.l0 ho.k0 rfl dX5_reachedThrough_9 ?_
    refine q_iload_n C 1 dX5_reachedThrough_12 rfl rfl ?_
    obtain ⟨hb1, h⟩ := q_if h
    refine s_zald C ho.l4 ho.k4 hb1 dX5_reachedThrough_13 ?_
    refine q_if_eq (tgt := 21) C h dX5_reachedThrough_14 (by decide) (fun h => ?_) (fun h => ?_)
    · refine q_aload_n C 0 dX5_reachedThrough_21 rfl rfl ?_
      refine s_getr (a := (o + 1)) C lf5_24 ho.l0 ho.k0 rfl dX5_reachedThrough_22 ?_
      refine q_iload_n C 1 dX5_reachedThrough_25 rfl rfl ?_
      refine s_iald C ho.l1 ho.k1 hb1 dX5_reachedThrough_26 ?_
      refine q_iload_n C 2 dX5_reachedThrough_27 rfl rfl ?_
      refine q_icmp_ne (tgt := 38) C h dX5_reachedThrough_28 (by decide) (fun h => ?_) (fun h => ?_)
      · refine q_aload_n C 0 dX5_reachedThrough_38 rfl rfl ?_
        refine s_getr (a := (o + 2)) C lf5_28 ho.l0 ho.k0 rfl dX5_reachedThrough_39 ?_
        refine q_iload_n C 1 dX5_reachedThrough_42 rfl rfl ?_
        refine s_iald C ho.l2 ho.k2 hb1 dX5_reachedThrough_43 ?_
        refine q_iload_n C 2 dX5_reachedThrough_44 rfl rfl ?_
        refine q_icmp_ne (tgt := 57) C h dX5_reachedThrough_45 (by decide) (fun h => ?_) (fun h => ?_)
        · refine q_sipush (v := (-999)) C dX5_reachedThrough_57 (by decide) ?_
          obtain rfl := Option.some.inj h
          exact q_iret C hr (Nat.le_refl 0) (Nat.le_refl 0) dX5_reachedThrough_60
        · refine q_aload_n C 0 dX5_reachedThrough_48 rfl rfl ?_
          refine s_getr (a := (o + 1)) C lf5_24 ho.l0 ho.k0 rfl dX5_reachedThrough_49 ?_
          refine q_iload_n C 1 dX5_reachedThrough_52 rfl rfl ?_
          refine s_iald C ho.l1 ho.k1 hb1 dX5_reachedThrough_53 ?_
          refine q_goto (tgt := 60) C dX5_reachedThrough_54 (by decide) ?_
          obtain rfl := Option.some.inj h
          exact q_iret C hr (Nat.le_refl 0) (Nat.le_refl 0) dX5_reachedThrough_60
      · refine q_aload_n C 0 dX5_reachedThrough_31 rfl rfl ?_
        refine s_getr (a := (o + 2)) C lf5_28 ho.l0 ho.k0 rfl dX5_reachedThrough_32 ?_
        refine q_iload_n C 1 dX5_reachedThrough_35 rfl rfl ?_
        refine s_iald C ho.l2 ho.k2 hb1 dX5_reachedThrough_36 ?_
        obtain rfl := Option.some.inj h
        exact q_iret C hr (Nat.le_refl 0) (Nat.le_refl 0) dX5_reachedThrough_37
    · refine q_sipush (v := (-999)) C dX5_reachedThrough_17 (by decide) ?_
      obtain rfl := Option.some.inj h
      exact q_iret C hr (Nat.le_refl 0) (Nat.le_refl 0) dX5_reachedThrough_20
/-! ClosedStreets$Town.openStreetsAt -/
abbrev rmX5_openStreetsAt : Room := { frames := 2, cells := 0, slots := 0, locals := 80 }
def B5_openStreetsAt_27 (n : Nat) (o : Nat) (K4 : Int32 → Int32 → Int32 → qSt → Option Int32) (v1 : Int32) (v2 : Int32) (v3 : Int32) (S : qSt) : Option Int32 := K4 v1 v2 (v3 + 1) S
set_option maxRecDepth 100000 in
set_option maxHeartbeats 4000000 in
theorem W5_openStreetsAt_27 {r : Int32} (C : qC g cX5_openStreetsAt RX5 4 p s m meth c) (hr : meth.sig.returnType = (some .int)) (n : Nat) (o : Nat) (ho : tyT o) (K4 : Int32 → Int32 → Int32 → qSt → Option Int32) (hK4 : ∀ (v1 : Int32) (v2 : Int32) (v3 : Int32) (S : qSt), K4 v1 v2 v3 S = some r → qR g NL qT 4 p l e rmX5_openStreetsAt s m args below meth c 0 0 (MQ below (qQi g NL qT (qmem g S) r) args s 0 0 (qA g)) (qmem g S) 4 [(0, .ref (qa g o)), (1, .int v1), (2, .int v2), (3, .int v3)] []) (v1 : Int32) (v2 : Int32) (v3 : Int32) (S : qSt) (h : B5_openStreetsAt_27 n o K4 v1 v2 v3 S = some r) : qR g NL qT 4 p l e rmX5_openStreetsAt s m args below meth c 0 0 (MQ below (qQi g NL qT (qmem g S) r) args s 0 0 (qA g)) (qmem g S) 27 [(0, .ref (qa g o)), (1, .int v1), (2, .int v2), (3, .int v3)] [] := by
  unfold B5_openStreetsAt_27 at h
  refine q_iinc C 3 (v := v3 + 1) (lv' := [(3, .int (v3 + 1)), (0, .ref (qa g o)), (1, .int v1), (2, .int v2)]) dX5_openStreetsAt_27 rfl rfl (by decide) rfl ?_
  refine q_norm [1, 2, 3, 0] rfl ?_
  refine q_goto (tgt := 4) C dX5_openStreetsAt_30 (by decide) ?_
  exact hK4 v1 v2 (v3 + 1) S h
def B5_openStreetsAt_4 (n : Nat) (o : Nat) : Nat → Int32 → Int32 → Int32 → qSt → Option Int32
  | 0, _, _, _, _ => none
  | n9 + 1, v1, v2, v3, S => if (S o 1) ≤ v3 then (some v2) else (ob1 (F5_reachedThrough o v3 v1 S) fun r2 => if r2 = (-999) then (B5_openStreetsAt_27 n o (B5_openStreetsAt_4 n o n9) v1 v2 v3 S) else (B5_openStreetsAt_27 n o (B5_openStreetsAt_4 n o n9) v1 (v2 + 1) v3 S))
set_option maxRecDepth 100000 in
set_option maxHeartbeats 4000000 in
theorem W5_openStreetsAt_4 {r : Int32} (C : qC g cX5_openStreetsAt RX5 4 p s m meth c) (hr : meth.sig.returnType = (some .int)) (n : Nat) (o : Nat) (ho : tyT o) : ∀ (n9 : Nat) (v1 : Int32) (v2 : Int32) (v3 : Int32) (S : qSt), B5_openStreetsAt_4 n o n9 v1 v2 v3 S = some r → qR g NL qT 4 p l e rmX5_openStreetsAt s m args below meth c 0 0 (MQ below (qQi g NL qT (qmem g S) r) args s 0 0 (qA g)) (qmem g S) 4 [(0, .ref (qa g o)), (1, .int v1), (2, .int v2), (3, .int v3)] [] := by
  intro n9
  induction n9 with
  | zero =>
    intro v1 v2 v3 S h
    have h9 : (none : Option Int32) = some r := h
    cases h9
  | succ n9 ih =>
    intro v1 v2 v3 S h
    rw [B5_openStreetsAt_4] at h
    refine q_iload_n C 3 dX5_openStreetsAt_4 rfl rfl ?_
    refine q_aload_n C 0 dX5_openStreetsAt_5 rfl rfl ?_
    refine s_geti C lf5_15 ho.l0 ho.k0 dX5_openStreetsAt_6 ?_
    refine q_icmp_ge (tgt := 33) C h dX5_openStreetsAt_9 (by decide) (fun h => ?_) (fun h => ?_)
    · refine q_iload_n C 2 dX5_openStreetsAt_33 rfl rfl ?_
      obtain rfl := Option.some.inj h
      exact q_iret C hr (Nat.le_refl 0) (Nat.le_refl 0) dX5_openStreetsAt_34
    · refine q_aload_n C 0 dX5_openStreetsAt_12 rfl rfl ?_
      refine q_iload_n C 3 dX5_openStreetsAt_13 rfl rfl ?_
      refine q_iload_n C 1 dX5_openStreetsAt_14 rfl rfl ?_
      obtain ⟨r2, hc1, h⟩ := ob1_e h
      refine q_callVi0 C ho.l0 (qmem_o ho.k0 (Nat.le_of_ble_eq_true rfl)) rfl rfl (kX5_reachedThrough o (ho) v3 v1 S hc1) lm5_46 rfl (rest := []) rfl (Nat.le_of_ble_eq_true rfl) dX5_openStreetsAt_15 ⟨rfl, rfl, Nat.le_of_ble_eq_true rfl, Nat.le_of_ble_eq_true rfl, Nat.le_of_ble_eq_true rfl, Nat.le_of_ble_eq_true rfl⟩ ?_
      refine q_sipush (v := (-999)) C dX5_openStreetsAt_18 (by decide) ?_
      refine q_icmp_eq (tgt := 27) C h dX5_openStreetsAt_21 (by decide) (fun h => ?_) (fun h => ?_)
      · exact W5_openStreetsAt_27 C hr n o ho (B5_openStreetsAt_4 n o n9) ih v1 v2 v3 S h
      · refine q_iinc C 2 (v := v2 + 1) (lv' := [(2, .int (v2 + 1)), (0, .ref (qa g o)), (1, .int v1), (3, .int v3)]) dX5_openStreetsAt_24 rfl rfl (by decide) rfl ?_
        refine q_norm [1, 2, 0, 3] rfl ?_
        exact W5_openStreetsAt_27 C hr n o ho (B5_openStreetsAt_4 n o n9) ih v1 (v2 + 1) v3 S h
def F5_openStreetsAt (n : Nat) (o : Nat) (v1 : Int32) (S : qSt) : Option Int32 := B5_openStreetsAt_4 n o n v1 0 0 S
set_option maxRecDepth 100000 in
set_option maxHeartbeats 4000000 in
theorem kX5_openStreetsAt {l : Launch} {g : qG} (n : Nat) (o : Nat) (ho : tyT o) (v1 : Int32) (S : qSt) {r : Int32} (h : F5_openStreetsAt n o v1 S = some r) : Met l yX5_openStreetsAt [.code yX5_openStreetsAt cX5_openStreetsAt 4 (some .int)] rmX5_openStreetsAt (qPc g NL qT (qmem g S) [.ref (qa g o), .int v1]) (qQi g NL qT (qmem g S) r) 0 0 (qA g) := by
  refine q_met (by decide) (Nat.le_of_ble_eq_true rfl) (fun p e s m args below meth c C hr _ => ?_)
  have C : qC g cX5_openStreetsAt RX5 4 p s m meth c := C
  show qR g NL qT 4 p l e rmX5_openStreetsAt s m args below meth c 0 0 (MQ below (qQi g NL qT (qmem g S) r) args s 0 0 (qA g)) (qmem g S) 0 [(0, .ref (qa g o)), (1, .int v1)] []
  unfold F5_openStreetsAt at h
  refine q_iconst (v := 0) C dX5_openStreetsAt_0 (by decide) ?_
  refine q_istore_n C (lv' := [(2, .int 0), (0, .ref (qa g o)), (1, .int v1)]) dX5_openStreetsAt_1 rfl (by decide) rfl ?_
  refine q_norm [1, 2, 0] rfl ?_
  refine q_iconst (v := 0) C dX5_openStreetsAt_2 (by decide) ?_
  refine q_istore_n C (lv' := [(3, .int 0), (0, .ref (qa g o)), (1, .int v1), (2, .int 0)]) dX5_openStreetsAt_3 rfl (by decide) rfl ?_
  refine q_norm [1, 2, 3, 0] rfl ?_
  exact W5_openStreetsAt_4 C hr n o ho n v1 0 0 S h
/-! ClosedStreets$Town.grow -/
abbrev rmX5_grow : Room := { frames := 0, cells := 0, slots := 0, locals := 0 }
def F5_grow (o : Nat) (S : qSt) : Option (Int32 × qSt) := if (S o 0) < 9 then (obs (qup S o 0 ((S o 0) + 1)) fun S1 => some (0, S1)) else (some (3, S))
set_option maxRecDepth 100000 in
set_option maxHeartbeats 4000000 in
theorem kX5_grow {l : Launch} {g : qG} (o : Nat) (ho : tyT o) (S : qSt) {r : Int32} {S2 : qSt} (h : F5_grow o S = some (r, S2)) : Met l yX5_grow [.code yX5_grow cX5_grow 1 (some .int)] rmX5_grow (qPc g NL qT (qmem g S) [.ref (qa g o)]) (qQi g NL qT (qmem g S2) r) 0 0 (qA g) := by
  refine q_met (by decide) (Nat.le_of_ble_eq_true rfl) (fun p e s m args below meth c C hr _ => ?_)
  have C : qC g cX5_grow RX5 1 p s m meth c := C
  show qR g NL qT 1 p l e rmX5_grow s m args below meth c 0 0 (MQ below (qQi g NL qT (qmem g S2) r) args s 0 0 (qA g)) (qmem g S) 0 [(0, .ref (qa g o))] []
  unfold F5_grow at h
  refine q_aload_n C 0 dX5_grow_0 rfl rfl ?_
  refine s_geti C lf5_9 ho.l0 ho.k0 dX5_grow_1 ?_
  refine q_bipush (v := 9) C dX5_grow_4 (by decide) ?_
  refine q_icmp_lt (tgt := 11) C h dX5_grow_6 (by decide) (fun h => ?_) (fun h => ?_)
  · refine q_aload_n C 0 dX5_grow_11 rfl rfl ?_
    refine q_dup C dX5_grow_12 rfl ?_
    refine s_geti C lf5_9 ho.l0 ho.k0 dX5_grow_13 ?_
    refine q_iconst (v := 1) C dX5_grow_16 (by decide) ?_
    refine q_iadd C dX5_grow_17 ?_
    obtain ⟨S1, hS1, h⟩ := obs_e h
    refine s_puti C lf5_9 ho.l0 ho.k0 dX5_grow_18 ?_
    rw [← hS1]
    refine q_iconst (v := 0) C dX5_grow_21 (by decide) ?_
    obtain ⟨rfl, rfl⟩ := Prod.mk.inj (Option.some.inj h)
    exact q_iret C hr (Nat.le_refl 0) (Nat.le_refl 0) dX5_grow_22
  · refine q_iconst (v := 3) C dX5_grow_9 (by decide) ?_
    obtain ⟨rfl, rfl⟩ := Prod.mk.inj (Option.some.inj h)
    exact q_iret C hr (Nat.le_refl 0) (Nat.le_refl 0) dX5_grow_10
/-! ClosedStreets$Town.takeAway -/
abbrev rmX5_takeAway : Room := { frames := 1, cells := 0, slots := 0, locals := 40 }
def B5_takeAway_22 (n : Nat) (o : Nat) : Nat → Int32 → qSt → Option (Int32 × qSt)
  | 0, _, _ => none
  | n9 + 1, v2, S => if (S o 1) ≤ v2 then (some (0, S)) else (ob1 (F5_copyStreet o o (v2 + 1) v2 S) fun S3 => (B5_takeAway_22 n o n9) (v2 + 1) S3)
set_option maxRecDepth 100000 in
set_option maxHeartbeats 4000000 in
theorem W5_takeAway_22 {r : Int32} {S2 : qSt} (C : qC g cX5_takeAway RX5 3 p s m meth c) (hr : meth.sig.returnType = (some .int)) (n : Nat) (o : Nat) (ho : tyT o) : ∀ (n9 : Nat) (v2 : Int32) (S : qSt), B5_takeAway_22 n o n9 v2 S = some (r, S2) → qR g NL qT 3 p l e rmX5_takeAway s m args below meth c 0 0 (MQ below (qQi g NL qT (qmem g S2) r) args s 0 0 (qA g)) (qmem g S) 22 [(0, .ref (qa g o)), (2, .int v2)] [] := by
  intro n9
  induction n9 with
  | zero =>
    intro v2 S h
    have h9 : (none : Option (Int32 × qSt)) = some (r, S2) := h
    cases h9
  | succ n9 ih =>
    intro v2 S h
    rw [B5_takeAway_22] at h
    refine q_iload_n C 1 dX5_takeAway_22 rfl rfl ?_
    refine q_aload_n C 0 dX5_takeAway_23 rfl rfl ?_
    refine s_geti C lf5_15 ho.l0 ho.k0 dX5_takeAway_24 ?_
    refine q_icmp_ge (tgt := 45) C h dX5_takeAway_27 (by decide) (fun h => ?_) (fun h => ?_)
    · refine q_iconst (v := 0) C dX5_takeAway_45 (by decide) ?_
      obtain ⟨rfl, rfl⟩ := Prod.mk.inj (Option.some.inj h)
      exact q_iret C hr (Nat.le_refl 0) (Nat.le_refl 0) dX5_takeAway_46
    · refine q_aload_n C 0 dX5_takeAway_30 rfl rfl ?_
      refine q_aload_n C 0 dX5_takeAway_31 rfl rfl ?_
      refine q_iload_n C 1 dX5_takeAway_32 rfl rfl ?_
      refine q_iconst (v := 1) C dX5_takeAway_33 (by decide) ?_
      refine q_iadd C dX5_takeAway_34 ?_
      refine q_iload_n C 1 dX5_takeAway_35 rfl rfl ?_
      obtain ⟨S3, hc2, h⟩ := ob1_e h
      refine q_callVv0 C ho.l0 (qmem_o ho.k0 (Nat.le_of_ble_eq_true rfl)) rfl rfl (kX5_copyStreet o (ho) o (ho) (v2 + 1) v2 S hc2) lm5_38 rfl (rest := []) rfl (Nat.le_of_ble_eq_true rfl) dX5_takeAway_36 ⟨rfl, rfl, Nat.le_of_ble_eq_true rfl, Nat.le_of_ble_eq_true rfl, Nat.le_of_ble_eq_true rfl, Nat.le_of_ble_eq_true rfl⟩ ?_
      refine q_iinc C 1 (v := v2 + 1) (lv' := [(2, .int (v2 + 1)), (0, .ref (qa g o))]) dX5_takeAway_39 rfl rfl (by decide) rfl ?_
      refine q_norm [1, 0] rfl ?_
      refine q_goto (tgt := 22) C dX5_takeAway_42 (by decide) ?_
      exact ih (v2 + 1) S3 h
def F5_takeAway (n : Nat) (o : Nat) (v1 : Int32) (S : qSt) : Option (Int32 × qSt) := if ¬ (F5_hasStreet o v1 S) = 0 then (obs (qup S o 1 ((S o 1) - 1)) fun S1 => B5_takeAway_22 n o n v1 S1) else (some (1, S))
set_option maxRecDepth 100000 in
set_option maxHeartbeats 4000000 in
theorem kX5_takeAway {l : Launch} {g : qG} (n : Nat) (o : Nat) (ho : tyT o) (v1 : Int32) (S : qSt) {r : Int32} {S2 : qSt} (h : F5_takeAway n o v1 S = some (r, S2)) : Met l yX5_takeAway [.code yX5_takeAway cX5_takeAway 3 (some .int)] rmX5_takeAway (qPc g NL qT (qmem g S) [.ref (qa g o), .int v1]) (qQi g NL qT (qmem g S2) r) 0 0 (qA g) := by
  refine q_met (by decide) (Nat.le_of_ble_eq_true rfl) (fun p e s m args below meth c C hr _ => ?_)
  have C : qC g cX5_takeAway RX5 3 p s m meth c := C
  show qR g NL qT 3 p l e rmX5_takeAway s m args below meth c 0 0 (MQ below (qQi g NL qT (qmem g S2) r) args s 0 0 (qA g)) (qmem g S) 0 [(0, .ref (qa g o)), (1, .int v1)] []
  unfold F5_takeAway at h
  refine q_aload_n C 0 dX5_takeAway_0 rfl rfl ?_
  refine q_iload_n C 1 dX5_takeAway_1 rfl rfl ?_
  refine q_callVi0 C ho.l0 (qmem_o ho.k0 (Nat.le_of_ble_eq_true rfl)) rfl rfl (kX5_hasStreet o (ho) v1 S) lm5_42 rfl (rest := []) rfl (Nat.le_of_ble_eq_true rfl) dX5_takeAway_2 ⟨rfl, rfl, Nat.le_of_ble_eq_true rfl, Nat.le_of_ble_eq_true rfl, Nat.le_of_ble_eq_true rfl, Nat.le_of_ble_eq_true rfl⟩ ?_
  refine q_if_ne (tgt := 10) C h dX5_takeAway_5 (by decide) (fun h => ?_) (fun h => ?_)
  · refine q_aload_n C 0 dX5_takeAway_10 rfl rfl ?_
    refine q_dup C dX5_takeAway_11 rfl ?_
    refine s_geti C lf5_15 ho.l0 ho.k0 dX5_takeAway_12 ?_
    refine q_iconst (v := 1) C dX5_takeAway_15 (by decide) ?_
    refine q_isub C dX5_takeAway_16 ?_
    obtain ⟨S1, hS1, h⟩ := obs_e h
    refine s_puti C lf5_15 ho.l0 ho.k0 dX5_takeAway_17 ?_
    rw [← hS1]
    refine q_iload_n C 1 dX5_takeAway_20 rfl rfl ?_
    refine q_istore_n C (lv' := [(2, .int v1), (0, .ref (qa g o)), (1, .int v1)]) dX5_takeAway_21 rfl (by decide) rfl ?_
    refine q_norm [1, 2, 0] rfl ?_
    refine q_norm [0, 2] rfl ?_
    exact W5_takeAway_22 C hr n o ho n v1 S1 h
  · refine q_iconst (v := 1) C dX5_takeAway_8 (by decide) ?_
    obtain ⟨rfl, rfl⟩ := Prod.mk.inj (Option.some.inj h)
    exact q_iret C hr (Nat.le_refl 0) (Nat.le_refl 0) dX5_takeAway_9
/-! ClosedStreets$Town.stretch -/
abbrev rmX5_stretch : Room := { frames := 1, cells := 0, slots := 0, locals := 40 }
def F5_stretch (o : Nat) (v1 : Int32) (v2 : Int32) (S : qSt) : Option (Int32 × qSt) := if ¬ (F5_hasStreet o v1 S) = 0 then (if ¬ (F7_refusalOfLength v2 S) = 0 then (some (F7_refusalOfLength v2 S, S)) else (if qin v1 21 = true then obs (qup S (o + 3) v1.toNatClampNeg v2) fun S2 => some (F7_refusalOfLength v2 S, S2) else none)) else (some (1, S))
set_option maxRecDepth 100000 in
set_option maxHeartbeats 4000000 in
theorem kX5_stretch {l : Launch} {g : qG} (o : Nat) (ho : tyT o) (v1 : Int32) (v2 : Int32) (S : qSt) {r : Int32} {S2 : qSt} (h : F5_stretch o v1 v2 S = some (r, S2)) : Met l yX5_stretch [.code yX5_stretch cX5_stretch 4 (some .int)] rmX5_stretch (qPc g NL qT (qmem g S) [.ref (qa g o), .int v1, .int v2]) (qQi g NL qT (qmem g S2) r) 0 0 (qA g) := by
  refine q_met (by decide) (Nat.le_of_ble_eq_true rfl) (fun p e s m args below meth c C hr _ => ?_)
  have C : qC g cX5_stretch RX5 4 p s m meth c := C
  show qR g NL qT 4 p l e rmX5_stretch s m args below meth c 0 0 (MQ below (qQi g NL qT (qmem g S2) r) args s 0 0 (qA g)) (qmem g S) 0 [(0, .ref (qa g o)), (1, .int v1), (2, .int v2)] []
  unfold F5_stretch at h
  refine q_aload_n C 0 dX5_stretch_0 rfl rfl ?_
  refine q_iload_n C 1 dX5_stretch_1 rfl rfl ?_
  refine q_callVi0 C ho.l0 (qmem_o ho.k0 (Nat.le_of_ble_eq_true rfl)) rfl rfl (kX5_hasStreet o (ho) v1 S) lm5_42 rfl (rest := []) rfl (Nat.le_of_ble_eq_true rfl) dX5_stretch_2 ⟨rfl, rfl, Nat.le_of_ble_eq_true rfl, Nat.le_of_ble_eq_true rfl, Nat.le_of_ble_eq_true rfl, Nat.le_of_ble_eq_true rfl⟩ ?_
  refine q_if_ne (tgt := 10) C h dX5_stretch_5 (by decide) (fun h => ?_) (fun h => ?_)
  · refine q_iload_n C 2 dX5_stretch_10 rfl rfl ?_
    refine q_callSNi0 C (kX7_refusalOfLength v2 S) lm5_64 rfl (rest := []) rfl (Nat.le_of_ble_eq_true rfl) dX5_stretch_11 ⟨rfl, rfl, Nat.le_of_ble_eq_true rfl, Nat.le_of_ble_eq_true rfl, Nat.le_of_ble_eq_true rfl, Nat.le_of_ble_eq_true rfl⟩ ?_
    refine q_istore_n C (lv' := [(3, .int (F7_refusalOfLength v2 S)), (0, .ref (qa g o)), (1, .int v1), (2, .int v2)]) dX5_stretch_14 rfl (by decide) rfl ?_
    refine q_norm [1, 2, 3, 0] rfl ?_
    refine q_iload_n C 3 dX5_stretch_15 rfl rfl ?_
    refine q_if_ne (tgt := 26) C h dX5_stretch_16 (by decide) (fun h => ?_) (fun h => ?_)
    · refine q_iload_n C 3 dX5_stretch_26 rfl rfl ?_
      obtain ⟨rfl, rfl⟩ := Prod.mk.inj (Option.some.inj h)
      exact q_iret C hr (Nat.le_refl 0) (Nat.le_refl 0) dX5_stretch_27
    · refine q_aload_n C 0 dX5_stretch_19 rfl rfl ?_
      refine s_getr (a := (o + 3)) C lf5_31 ho.l0 ho.k0 rfl dX5_stretch_20 ?_
      refine q_iload_n C 1 dX5_stretch_23 rfl rfl ?_
      refine q_iload_n C 2 dX5_stretch_24 rfl rfl ?_
      obtain ⟨hb1, h⟩ := q_if h
      obtain ⟨S2, hS2, h⟩ := obs_e h
      refine s_iast C ho.l3 ho.k3 hb1 dX5_stretch_25 ?_
      rw [← hS2]
      refine q_iload_n C 3 dX5_stretch_26 rfl rfl ?_
      obtain ⟨rfl, rfl⟩ := Prod.mk.inj (Option.some.inj h)
      exact q_iret C hr (Nat.le_refl 0) (Nat.le_refl 0) dX5_stretch_27
  · refine q_iconst (v := 1) C dX5_stretch_8 (by decide) ?_
    obtain ⟨rfl, rfl⟩ := Prod.mk.inj (Option.some.inj h)
    exact q_iret C hr (Nat.le_refl 0) (Nat.le_refl 0) dX5_stretch_9
/-! ClosedStreets$Town.lengthOf -/
abbrev rmX5_lengthOf : Room := { frames := 1, cells := 0, slots := 0, locals := 40 }
def F5_lengthOf (o : Nat) (v1 : Int32) (S : qSt) : Option Int32 := if (F5_hasStreet o v1 S) = 0 then (some (-999)) else (if qin v1 21 = true then some (S (o + 3) v1.toNatClampNeg) else none)
set_option maxRecDepth 100000 in
set_option maxHeartbeats 4000000 in
theorem kX5_lengthOf {l : Launch} {g : qG} (o : Nat) (ho : tyT o) (v1 : Int32) (S : qSt) {r : Int32} (h : F5_lengthOf o v1 S = some r) : Met l yX5_lengthOf [.code yX5_lengthOf cX5_lengthOf 2 (some .int)] rmX5_lengthOf (qPc g NL qT (qmem g S) [.ref (qa g o), .int v1]) (qQi g NL qT (qmem g S) r) 0 0 (qA g) := by
  refine q_met (by decide) (Nat.le_of_ble_eq_true rfl) (fun p e s m args below meth c C hr _ => ?_)
  have C : qC g cX5_lengthOf RX5 2 p s m meth c := C
  show qR g NL qT 2 p l e rmX5_lengthOf s m args below meth c 0 0 (MQ below (qQi g NL qT (qmem g S) r) args s 0 0 (qA g)) (qmem g S) 0 [(0, .ref (qa g o)), (1, .int v1)] []
  unfold F5_lengthOf at h
  refine q_aload_n C 0 dX5_lengthOf_0 rfl rfl ?_
  refine q_iload_n C 1 dX5_lengthOf_1 rfl rfl ?_
  refine q_callVi0 C ho.l0 (qmem_o ho.k0 (Nat.le_of_ble_eq_true rfl)) rfl rfl (kX5_hasStreet o (ho) v1 S) lm5_42 rfl (rest := []) rfl (Nat.le_of_ble_eq_true rfl) dX5_lengthOf_2 ⟨rfl, rfl, Nat.le_of_ble_eq_true rfl, Nat.le_of_ble_eq_true rfl, Nat.le_of_ble_eq_true rfl, Nat.le_of_ble_eq_true rfl⟩ ?_
  refine q_if_eq (tgt := 17) C h dX5_lengthOf_5 (by decide) (fun h => ?_) (fun h => ?_)
  · refine q_sipush (v := (-999)) C dX5_lengthOf_17 (by decide) ?_
    obtain rfl := Option.some.inj h
    exact q_iret C hr (Nat.le_refl 0) (Nat.le_refl 0) dX5_lengthOf_20
  · refine q_aload_n C 0 dX5_lengthOf_8 rfl rfl ?_
    refine s_getr (a := (o + 3)) C lf5_31 ho.l0 ho.k0 rfl dX5_lengthOf_9 ?_
    refine q_iload_n C 1 dX5_lengthOf_12 rfl rfl ?_
    obtain ⟨hb1, h⟩ := q_if h
    refine s_iald C ho.l3 ho.k3 hb1 dX5_lengthOf_13 ?_
    refine q_goto (tgt := 20) C dX5_lengthOf_14 (by decide) ?_
    obtain rfl := Option.some.inj h
    exact q_iret C hr (Nat.le_refl 0) (Nat.le_refl 0) dX5_lengthOf_20
/-! ClosedStreets$Town.direct -/
abbrev rmX5_direct : Room := { frames := 2, cells := 0, slots := 0, locals := 80 }
def F5_direct (o : Nat) (v1 : Int32) (v2 : Int32) (S : qSt) : Option (Int32 × qSt) := if ¬ (F5_refusalOfPair o v1 v2 S) = 0 then (some (F5_refusalOfPair o v1 v2 S, S)) else (obs (qup S o 2 v1) fun S1 => obs (qup S1 o 3 v2) fun S2 => some (F5_refusalOfPair o v1 v2 S, S2))
set_option maxRecDepth 100000 in
set_option maxHeartbeats 4000000 in
theorem kX5_direct {l : Launch} {g : qG} (o : Nat) (ho : tyT o) (v1 : Int32) (v2 : Int32) (S : qSt) {r : Int32} {S2 : qSt} (h : F5_direct o v1 v2 S = some (r, S2)) : Met l yX5_direct [.code yX5_direct cX5_direct 4 (some .int)] rmX5_direct (qPc g NL qT (qmem g S) [.ref (qa g o), .int v1, .int v2]) (qQi g NL qT (qmem g S2) r) 0 0 (qA g) := by
  refine q_met (by decide) (Nat.le_of_ble_eq_true rfl) (fun p e s m args below meth c C hr _ => ?_)
  have C : qC g cX5_direct RX5 4 p s m meth c := C
  show qR g NL qT 4 p l e rmX5_direct s m args below meth c 0 0 (MQ below (qQi g NL qT (qmem g S2) r) args s 0 0 (qA g)) (qmem g S) 0 [(0, .ref (qa g o)), (1, .int v1), (2, .int v2)] []
  unfold F5_direct at h
  refine q_aload_n C 0 dX5_direct_0 rfl rfl ?_
  refine q_iload_n C 1 dX5_direct_1 rfl rfl ?_
  refine q_iload_n C 2 dX5_direct_2 rfl rfl ?_
  refine q_callVi0 C ho.l0 (qmem_o ho.k0 (Nat.le_of_ble_eq_true rfl)) rfl rfl (kX5_refusalOfPair o (ho) v1 v2 S) lm5_61 rfl (rest := []) rfl (Nat.le_of_ble_eq_true rfl) dX5_direct_3 ⟨rfl, rfl, Nat.le_of_ble_eq_true rfl, Nat.le_of_ble_eq_true rfl, Nat.le_of_ble_eq_true rfl, Nat.le_of_ble_eq_true rfl⟩ ?_
  refine q_istore_n C (lv' := [(3, .int (F5_refusalOfPair o v1 v2 S)), (0, .ref (qa g o)), (1, .int v1), (2, .int v2)]) dX5_direct_6 rfl (by decide) rfl ?_
  refine q_norm [1, 2, 3, 0] rfl ?_
  refine q_iload_n C 3 dX5_direct_7 rfl rfl ?_
  refine q_if_ne (tgt := 21) C h dX5_direct_8 (by decide) (fun h => ?_) (fun h => ?_)
  · refine q_iload_n C 3 dX5_direct_21 rfl rfl ?_
    obtain ⟨rfl, rfl⟩ := Prod.mk.inj (Option.some.inj h)
    exact q_iret C hr (Nat.le_refl 0) (Nat.le_refl 0) dX5_direct_22
  · refine q_aload_n C 0 dX5_direct_11 rfl rfl ?_
    refine q_iload_n C 1 dX5_direct_12 rfl rfl ?_
    obtain ⟨S1, hS1, h⟩ := obs_e h
    refine s_puti C lf5_18 ho.l0 ho.k0 dX5_direct_13 ?_
    rw [← hS1]
    refine q_aload_n C 0 dX5_direct_16 rfl rfl ?_
    refine q_iload_n C 2 dX5_direct_17 rfl rfl ?_
    obtain ⟨S2, hS2, h⟩ := obs_e h
    refine s_puti C lf5_21 ho.l0 ho.k0 dX5_direct_18 ?_
    rw [← hS2]
    refine q_iload_n C 3 dX5_direct_21 rfl rfl ?_
    obtain ⟨rfl, rfl⟩ := Prod.mk.inj (Option.some.inj h)
    exact q_iret C hr (Nat.le_refl 0) (Nat.le_refl 0) dX5_direct_22
end
