section
variable {l : Launch} {g : qG} {p : Program} {e : Env} {s : State} {m : MethodId} {args : Array Value} {below : List Frame} {meth : Method} {c : Code}
/-! ClosedStreets$Text.put -/
abbrev rmX4_put : Room := { frames := 0, cells := 0, slots := 0, locals := 0 }
def F4_put (v1 : Int32) (S : qSt) : Option qSt := if 140 ≤ (S 1 1) then (some S) else (if qin (S 1 1) 140 = true then obs (qup S 2 (S 1 1).toNatClampNeg v1.toUInt32.toUInt16.toUInt32.toInt32) fun S2 => some (qup S2 1 1 ((S2 1 1) + 1)) else none)
set_option maxRecDepth 100000 in
set_option maxHeartbeats 4000000 in
theorem kX4_put {l : Launch} {g : qG} (v1 : Int32) (S : qSt) {S2 : qSt} (h : F4_put v1 S = some S2) : Met l yX4_put [.code yX4_put cX4_put 2 none] rmX4_put (qPc g NL qT (qmem g S) [.ref (qa g 1), .int v1]) (qQv g NL qT (qmem g S2)) 0 0 (qA g) := by
  refine q_met (by decide) (Nat.le_of_ble_eq_true rfl) (fun p e s m args below meth c C hr _ => ?_)
  have C : qC g cX4_put RX4 2 p s m meth c := C
  show qR g NL qT 2 p l e rmX4_put s m args below meth c 0 0 (MQ below (qQv g NL qT (qmem g S2)) args s 0 0 (qA g)) (qmem g S) 0 [(0, .ref (qa g 1)), (1, .int v1)] []
  unfold F4_put at h
  refine q_aload_n C 0 dX4_put_0 rfl rfl ?_
  refine s_geti C lf4_15 ltp_1 kd_1 dX4_put_1 ?_
  refine q_sipush (v := 140) C dX4_put_4 (by decide) ?_
  refine q_icmp_ge (tgt := 30) C h dX4_put_7 (by decide) (fun h => ?_) (fun h => ?_)
  · obtain rfl := Option.some.inj h
    exact q_vret C hr (Nat.le_refl 0) (Nat.le_refl 0) dX4_put_30
  · refine q_aload_n C 0 dX4_put_10 rfl rfl ?_
    refine s_getr (a := 2) C lf4_9 ltp_1 kd_1 rfl dX4_put_11 ?_
    refine q_aload_n C 0 dX4_put_14 rfl rfl ?_
    refine s_geti C lf4_15 ltp_1 kd_1 dX4_put_15 ?_
    refine q_iload_n C 1 dX4_put_18 rfl rfl ?_
    obtain ⟨hb1, h⟩ := q_if h
    obtain ⟨S2, hS2, h⟩ := obs_e h
    refine s_cast C ltp_2 kd_2 hb1 dX4_put_19 ?_
    rw [← hS2]
    refine q_aload_n C 0 dX4_put_20 rfl rfl ?_
    refine q_dup C dX4_put_21 rfl ?_
    refine s_geti C lf4_15 ltp_1 kd_1 dX4_put_22 ?_
    refine q_iconst (v := 1) C dX4_put_25 (by decide) ?_
    refine q_iadd C dX4_put_26 ?_
    refine s_puti C lf4_15 ltp_1 kd_1 dX4_put_27 ?_
    obtain rfl := Option.some.inj h
    exact q_vret C hr (Nat.le_refl 0) (Nat.le_refl 0) dX4_put_30
/-! ClosedStreets$Text.codeAt -/
abbrev rmX4_codeAt : Room := { frames := 0, cells := 0, slots := 0, locals := 0 }
def F4_codeAt (v1 : Int32) (S : qSt) : Option Int32 := if v1 < 0 then (some (-1)) else (if (S 1 1) ≤ v1 then (some (-1)) else (if qin v1 140 = true then some (S 2 v1.toNatClampNeg) else none))
set_option maxRecDepth 100000 in
set_option maxHeartbeats 4000000 in
theorem kX4_codeAt {l : Launch} {g : qG} (v1 : Int32) (S : qSt) {r : Int32} (h : F4_codeAt v1 S = some r) : Met l yX4_codeAt [.code yX4_codeAt cX4_codeAt 2 (some .int)] rmX4_codeAt (qPc g NL qT (qmem g S) [.ref (qa g 1), .int v1]) (qQi g NL qT (qmem g S) r) 0 0 (qA g) := by
  refine q_met (by decide) (Nat.le_of_ble_eq_true rfl) (fun p e s m args below meth c C hr _ => ?_)
  have C : qC g cX4_codeAt RX4 2 p s m meth c := C
  show qR g NL qT 2 p l e rmX4_codeAt s m args below meth c 0 0 (MQ below (qQi g NL qT (qmem g S) r) args s 0 0 (qA g)) (qmem g S) 0 [(0, .ref (qa g 1)), (1, .int v1)] []
  unfold F4_codeAt at h
  refine q_iload_n C 1 dX4_codeAt_0 rfl rfl ?_
  refine q_if_lt (tgt := 21) C h dX4_codeAt_1 (by decide) (fun h => ?_) (fun h => ?_)
  · refine q_iconst (v := (-1)) C dX4_codeAt_21 (by decide) ?_
    obtain rfl := Option.some.inj h
    exact q_iret C hr (Nat.le_refl 0) (Nat.le_refl 0) dX4_codeAt_22
  · refine q_iload_n C 1 dX4_codeAt_4 rfl rfl ?_
    refine q_aload_n C 0 dX4_codeAt_5 rfl rfl ?_
    refine s_geti C lf4_15 ltp_1 kd_1 dX4_codeAt_6 ?_
    refine q_icmp_ge (tgt := 21) C h dX4_codeAt_9 (by decide) (fun h => ?_) (fun h => ?_)
    · refine q_iconst (v := (-1)) C dX4_codeAt_21 (by decide) ?_
      obtain rfl := Option.some.inj h
      exact q_iret C hr (Nat.le_refl 0) (Nat.le_refl 0) dX4_codeAt_22
    · refine q_aload_n C 0 dX4_codeAt_12 rfl rfl ?_
      refine s_getr (a := 2) C lf4_9 ltp_1 kd_1 rfl dX4_codeAt_13 ?_
      refine q_iload_n C 1 dX4_codeAt_16 rfl rfl ?_
      obtain ⟨hb1, h⟩ := q_if h
      refine s_cald C ltp_2 kd_2 hb1 dX4_codeAt_17 ?_
      refine q_goto (tgt := 22) C dX4_codeAt_18 (by decide) ?_
      obtain rfl := Option.some.inj h
      exact q_iret C hr (Nat.le_refl 0) (Nat.le_refl 0) dX4_codeAt_22
/-! ClosedStreets$Text.digitAt -/
abbrev rmX4_digitAt : Room := { frames := 1, cells := 0, slots := 0, locals := 40 }
def F4_digitAt (v1 : Int32) (S : qSt) : Option Int32 := ob1 (F4_codeAt v1 S) fun r2 => if r2 < 48 then (some (-999)) else (if 57 < r2 then (some (-999)) else (some (r2 - 48)))
set_option maxRecDepth 100000 in
set_option maxHeartbeats 4000000 in
theorem kX4_digitAt {l : Launch} {g : qG} (v1 : Int32) (S : qSt) {r : Int32} (h : F4_digitAt v1 S = some r) : Met l yX4_digitAt [.code yX4_digitAt cX4_digitAt 3 (some .int)] rmX4_digitAt (qPc g NL qT (qmem g S) [.ref (qa g 1), .int v1]) (qQi g NL qT (qmem g S) r) 0 0 (qA g) := by
  refine q_met (by decide) (Nat.le_of_ble_eq_true rfl) (fun p e s m args below meth c C hr _ => ?_)
  have C : qC g cX4_digitAt RX4 3 p s m meth c := C
  show qR g NL qT 3 p l e rmX4_digitAt s m args below meth c 0 0 (MQ below (qQi g NL qT (qmem g S) r) args s 0 0 (qA g)) (qmem g S) 0 [(0, .ref (qa g 1)), (1, .int v1)] []
  unfold F4_digitAt at h
  refine q_aload_n C 0 dX4_digitAt_0 rfl rfl ?_
  refine q_iload_n C 1 dX4_digitAt_1 rfl rfl ?_
  obtain ⟨r2, hc1, h⟩ := ob1_e h
  refine q_callVi0 C ltp_1 (qmem_o kd_1 (Nat.le_of_ble_eq_true rfl)) rfl rfl (kX4_codeAt v1 S hc1) lm4_19 rfl (rest := []) rfl (Nat.le_of_ble_eq_true rfl) dX4_digitAt_2 ⟨rfl, rfl, Nat.le_of_ble_eq_true rfl, Nat.le_of_ble_eq_true rfl, Nat.le_of_ble_eq_true rfl, Nat.le_of_ble_eq_true rfl⟩ ?_
  refine q_istore_n C (lv' := [(2, .int r2), (0, .ref (qa g 1)), (1, .int v1)]) dX4_digitAt_5 rfl (by decide) rfl ?_
  refine q_norm [1, 2, 0] rfl ?_
  refine q_iload_n C 2 dX4_digitAt_6 rfl rfl ?_
  refine q_bipush (v := 48) C dX4_digitAt_7 (by decide) ?_
  refine q_icmp_lt (tgt := 25) C h dX4_digitAt_9 (by decide) (fun h => ?_) (fun h => ?_)
  · refine q_sipush (v := (-999)) C dX4_digitAt_25 (by decide) ?_
    obtain rfl := Option.some.inj h
    exact q_iret C hr (Nat.le_refl 0) (Nat.le_refl 0) dX4_digitAt_28
  · refine q_iload_n C 2 dX4_digitAt_12 rfl rfl ?_
    refine q_bipush (v := 57) C dX4_digitAt_13 (by decide) ?_
    refine q_icmp_gt (tgt := 25) C h dX4_digitAt_15 (by decide) (fun h => ?_) (fun h => ?_)
    · refine q_sipush (v := (-999)) C dX4_digitAt_25 (by decide) ?_
      obtain rfl := Option.some.inj h
      exact q_iret C hr (Nat.le_refl 0) (Nat.le_refl 0) dX4_digitAt_28
    · refine q_iload_n C 2 dX4_digitAt_18 rfl rfl ?_
      refine q_bipush (v := 48) C dX4_digitAt_19 (by decide) ?_
      refine q_isub C dX4_digitAt_21 ?_
      refine q_goto (tgt := 28) C dX4_digitAt_22 (by decide) ?_
      obtain rfl := Option.some.inj h
      exact q_iret C hr (Nat.le_refl 0) (Nat.le_refl 0) dX4_digitAt_28
/-! ClosedStreets$Route.weightOf -/
abbrev rmX2_weightOf : Room := { frames := 0, cells := 0, slots := 0, locals := 0 }
def F2_weightOf (a0 : Nat) (v1 : Int32) (S : qSt) : Option Int32 := if qin v1 21 = true then some (((S (a0 + 3) v1.toNatClampNeg) * 16) + 1) else none
set_option maxRecDepth 100000 in
set_option maxHeartbeats 4000000 in
theorem kX2_weightOf {l : Launch} {g : qG} (a0 : Nat) (ha0 : tyT a0) (v1 : Int32) (S : qSt) {r : Int32} (h : F2_weightOf a0 v1 S = some r) : Met l yX2_weightOf [.code yX2_weightOf cX2_weightOf 2 (some .int)] rmX2_weightOf (qPc g NL qT (qmem g S) [.ref (qa g a0), .int v1]) (qQi g NL qT (qmem g S) r) 0 0 (qA g) := by
  refine q_met (by decide) (Nat.le_of_ble_eq_true rfl) (fun p e s m args below meth c C hr _ => ?_)
  have C : qC g cX2_weightOf RX2 2 p s m meth c := C
  show qR g NL qT 2 p l e rmX2_weightOf s m args below meth c 0 0 (MQ below (qQi g NL qT (qmem g S) r) args s 0 0 (qA g)) (qmem g S) 0 [(0, .ref (qa g a0)), (1, .int v1)] []
  unfold F2_weightOf at h
  refine q_aload_n C 0 dX2_weightOf_0 rfl rfl ?_
  refine s_getr (a := (a0 + 3)) C lf2_49 ha0.l0 ha0.k0 rfl dX2_weightOf_1 ?_
  refine q_iload_n C 1 dX2_weightOf_4 rfl rfl ?_
  obtain ⟨hb1, h⟩ := q_if h
  refine s_iald C ha0.l3 ha0.k3 hb1 dX2_weightOf_5 ?_
  refine q_bipush (v := 16) C dX2_weightOf_6 (by decide) ?_
  refine q_imul C dX2_weightOf_8 ?_
  refine q_iconst (v := 1) C dX2_weightOf_9 (by decide) ?_
  refine q_iadd C dX2_weightOf_10 ?_
  obtain rfl := Option.some.inj h
  exact q_iret C hr (Nat.le_refl 0) (Nat.le_refl 0) dX2_weightOf_11
/-! ClosedStreets$Route.improves -/
abbrev rmX2_improves : Room := { frames := 1, cells := 0, slots := 0, locals := 40 }
def F2_improves (o : Nat) (a1 : Nat) (v2 : Int32) (S : qSt) : Option (Int32 × qSt) := if qin v2 21 = true then ob1 (F2_weightOf a1 v2 S) fun r3 => if qin (S (a1 + 1) v2.toNatClampNeg) 9 = true then if qin (S (a1 + 2) v2.toNatClampNeg) 9 = true then if (S (o + 1) (S (a1 + 2) v2.toNatClampNeg).toNatClampNeg) ≤ ((S (o + 1) (S (a1 + 1) v2.toNatClampNeg).toNatClampNeg) + r3) then (if (S (o + 1) (S (a1 + 1) v2.toNatClampNeg).toNatClampNeg) ≤ ((S (o + 1) (S (a1 + 2) v2.toNatClampNeg).toNatClampNeg) + r3) then (some (0, S)) else (obs (qup S (o + 1) (S (a1 + 1) v2.toNatClampNeg).toNatClampNeg ((S (o + 1) (S (a1 + 2) v2.toNatClampNeg).toNatClampNeg) + r3)) fun S6 => some (1, S6))) else (obs (qup S (o + 1) (S (a1 + 2) v2.toNatClampNeg).toNatClampNeg ((S (o + 1) (S (a1 + 1) v2.toNatClampNeg).toNatClampNeg) + r3)) fun S7 => some (1, S7)) else none else none else none
set_option maxRecDepth 100000 in
set_option maxHeartbeats 4000000 in
theorem kX2_improves {l : Launch} {g : qG} (o : Nat) (ho : tyR o) (a1 : Nat) (ha1 : tyT a1) (v2 : Int32) (S : qSt) {r : Int32} {S2 : qSt} (h : F2_improves o a1 v2 S = some (r, S2)) : Met l yX2_improves [.code yX2_improves cX2_improves 6 (some .boolean)] rmX2_improves (qPc g NL qT (qmem g S) [.ref (qa g o), .ref (qa g a1), .int v2]) (qQi g NL qT (qmem g S2) r) 0 0 (qA g) := by
  refine q_met (by decide) (Nat.le_of_ble_eq_true rfl) (fun p e s m args below meth c C hr _ => ?_)
  have C : qC g cX2_improves RX2 6 p s m meth c := C
  show qR g NL qT 6 p l e rmX2_improves s m args below meth c 0 0 (MQ below (qQi g NL qT (qmem g S2) r) args s 0 0 (qA g)) (qmem g S) 0 [(0, .ref (qa g o)), (1, .ref (qa g a1)), (2, .int v2)] []
  unfold F2_improves at h
  refine q_aload_n C 1 dX2_improves_0 rfl rfl ?_
  refine s_getr (a := (a1 + 1)) C lf2_39 ha1.l0 ha1.k0 rfl dX2_improves_1 ?_
  refine q_iload_n C 2 dX2_improves_4 rfl rfl ?_
  obtain ⟨hb1, h⟩ := q_if h
  refine s_iald C ha1.l1 ha1.k1 hb1 dX2_improves_5 ?_
  refine q_istore_n C (lv' := [(3, .int (S (a1 + 1) v2.toNatClampNeg)), (0, .ref (qa g o)), (1, .ref (qa g a1)), (2, .int v2)]) dX2_improves_6 rfl (by decide) rfl ?_
  refine q_norm [1, 2, 3, 0] rfl ?_
  refine q_aload_n C 1 dX2_improves_7 rfl rfl ?_
  refine s_getr (a := (a1 + 2)) C lf2_42 ha1.l0 ha1.k0 rfl dX2_improves_8 ?_
  refine q_iload_n C 2 dX2_improves_11 rfl rfl ?_
  refine s_iald C ha1.l2 ha1.k2 hb1 dX2_improves_12 ?_
  refine q_istore C (lv' := [(4, .int (S (a1 + 2) v2.toNatClampNeg)), (0, .ref (qa g o)), (1, .ref (qa g a1)), (2, .int v2), (3, .int (S (a1 + 1) v2.toNatClampNeg))]) dX2_improves_13 (by decide) rfl ?_
  refine q_norm [1, 2, 3, 4, 0] rfl ?_
  refine q_aload_n C 1 dX2_improves_15 rfl rfl ?_
  refine q_iload_n C 2 dX2_improves_16 rfl rfl ?_
  obtain ⟨r3, hc2, h⟩ := ob1_e h
  refine q_callSi0 C (kX2_weightOf a1 (ha1) v2 S hc2) lm2_45 rfl (rest := []) rfl (Nat.le_of_ble_eq_true rfl) dX2_improves_17 ⟨rfl, rfl, Nat.le_of_ble_eq_true rfl, Nat.le_of_ble_eq_true rfl, Nat.le_of_ble_eq_true rfl, Nat.le_of_ble_eq_true rfl⟩ ?_
  refine q_istore C (lv' := [(5, .int r3), (0, .ref (qa g o)), (1, .ref (qa g a1)), (2, .int v2), (3, .int (S (a1 + 1) v2.toNatClampNeg)), (4, .int (S (a1 + 2) v2.toNatClampNeg))]) dX2_improves_20 (by decide) rfl ?_
  refine q_norm [1, 2, 3, 4, 5, 0] rfl ?_
  refine q_aload_n C 0 dX2_improves_22 rfl rfl ?_
  refine s_getr (a := (o + 1)) C lf2_9 ho.l0 ho.k0 rfl dX2_improves_23 ?_
  refine q_iload_n C 3 dX2_improves_26 rfl rfl ?_
  obtain ⟨hb4, h⟩ := q_if h
  refine s_iald C ho.l1 ho.k1 hb4 dX2_improves_27 ?_
  refine q_iload C 5 dX2_improves_28 rfl ?_
  refine q_iadd C dX2_improves_30 ?_
  refine q_aload_n C 0 dX2_improves_31 rfl rfl ?_
  refine s_getr (a := (o + 1)) C lf2_9 ho.l0 ho.k0 rfl dX2_improves_32 ?_
  refine q_iload C 4 dX2_improves_35 rfl ?_
  obtain ⟨hb5, h⟩ := q_if h
  refine s_iald C ho.l1 ho.k1 hb5 dX2_improves_37 ?_
  refine q_icmp_ge (tgt := 59) C h dX2_improves_38 (by decide) (fun h => ?_) (fun h => ?_)
  · refine q_aload_n C 0 dX2_improves_59 rfl rfl ?_
    refine s_getr (a := (o + 1)) C lf2_9 ho.l0 ho.k0 rfl dX2_improves_60 ?_
    refine q_iload C 4 dX2_improves_63 rfl ?_
    refine s_iald C ho.l1 ho.k1 hb5 dX2_improves_65 ?_
    refine q_iload C 5 dX2_improves_66 rfl ?_
    refine q_iadd C dX2_improves_68 ?_
    refine q_aload_n C 0 dX2_improves_69 rfl rfl ?_
    refine s_getr (a := (o + 1)) C lf2_9 ho.l0 ho.k0 rfl dX2_improves_70 ?_
    refine q_iload_n C 3 dX2_improves_73 rfl rfl ?_
    refine s_iald C ho.l1 ho.k1 hb4 dX2_improves_74 ?_
    refine q_icmp_ge (tgt := 96) C h dX2_improves_75 (by decide) (fun h => ?_) (fun h => ?_)
    · refine q_iconst (v := 0) C dX2_improves_96 (by decide) ?_
      obtain ⟨rfl, rfl⟩ := Prod.mk.inj (Option.some.inj h)
      exact q_zret C hr (by decide) (Nat.le_refl 0) (Nat.le_refl 0) dX2_improves_97
    · refine q_aload_n C 0 dX2_improves_78 rfl rfl ?_
      refine s_getr (a := (o + 1)) C lf2_9 ho.l0 ho.k0 rfl dX2_improves_79 ?_
      refine q_iload_n C 3 dX2_improves_82 rfl rfl ?_
      refine q_aload_n C 0 dX2_improves_83 rfl rfl ?_
      refine s_getr (a := (o + 1)) C lf2_9 ho.l0 ho.k0 rfl dX2_improves_84 ?_
      refine q_iload C 4 dX2_improves_87 rfl ?_
      refine s_iald C ho.l1 ho.k1 hb5 dX2_improves_89 ?_
      refine q_iload C 5 dX2_improves_90 rfl ?_
      refine q_iadd C dX2_improves_92 ?_
      obtain ⟨S6, hS6, h⟩ := obs_e h
      refine s_iast C ho.l1 ho.k1 hb4 dX2_improves_93 ?_
      rw [← hS6]
      refine q_iconst (v := 1) C dX2_improves_94 (by decide) ?_
      obtain ⟨rfl, rfl⟩ := Prod.mk.inj (Option.some.inj h)
      exact q_zret C hr (by decide) (Nat.le_refl 0) (Nat.le_refl 0) dX2_improves_95
  · refine q_aload_n C 0 dX2_improves_41 rfl rfl ?_
    refine s_getr (a := (o + 1)) C lf2_9 ho.l0 ho.k0 rfl dX2_improves_42 ?_
    refine q_iload C 4 dX2_improves_45 rfl ?_
    refine q_aload_n C 0 dX2_improves_47 rfl rfl ?_
    refine s_getr (a := (o + 1)) C lf2_9 ho.l0 ho.k0 rfl dX2_improves_48 ?_
    refine q_iload_n C 3 dX2_improves_51 rfl rfl ?_
    refine s_iald C ho.l1 ho.k1 hb4 dX2_improves_52 ?_
    refine q_iload C 5 dX2_improves_53 rfl ?_
    refine q_iadd C dX2_improves_55 ?_
    obtain ⟨S7, hS7, h⟩ := obs_e h
    refine s_iast C ho.l1 ho.k1 hb5 dX2_improves_56 ?_
    rw [← hS7]
    refine q_iconst (v := 1) C dX2_improves_57 (by decide) ?_
    obtain ⟨rfl, rfl⟩ := Prod.mk.inj (Option.some.inj h)
    exact q_zret C hr (by decide) (Nat.le_refl 0) (Nat.le_refl 0) dX2_improves_58
/-! ClosedStreets$Route.weigh -/
abbrev rmX2_weigh : Room := { frames := 2, cells := 0, slots := 0, locals := 80 }
def B2_weigh_89 (n : Nat) (o : Nat) (a1 : Nat) (K36 : Int32 → Int32 → qSt → Option qSt) (v3 : Int32) (v4 : Int32) (S : qSt) : Option qSt := K36 v3 (v4 + 1) S
set_option maxRecDepth 100000 in
set_option maxHeartbeats 4000000 in
theorem W2_weigh_89 {S2 : qSt} (C : qC g cX2_weigh RX2 6 p s m meth c) (hr : meth.sig.returnType = none) (n : Nat) (o : Nat) (ho : tyR o) (a1 : Nat) (ha1 : tyT a1) (K36 : Int32 → Int32 → qSt → Option qSt) (hK36 : ∀ (v3 : Int32) (v4 : Int32) (S : qSt), K36 v3 v4 S = some S2 → qR g NL qT 6 p l e rmX2_weigh s m args below meth c 0 0 (MQ below (qQv g NL qT (qmem g S2)) args s 0 0 (qA g)) (qmem g S) 36 [(0, .ref (qa g o)), (1, .ref (qa g a1)), (3, .int v3), (4, .int v4)] []) (v3 : Int32) (v4 : Int32) (S : qSt) (h : B2_weigh_89 n o a1 K36 v3 v4 S = some S2) : qR g NL qT 6 p l e rmX2_weigh s m args below meth c 0 0 (MQ below (qQv g NL qT (qmem g S2)) args s 0 0 (qA g)) (qmem g S) 89 [(0, .ref (qa g o)), (1, .ref (qa g a1)), (3, .int v3), (4, .int v4)] [] := by
  unfold B2_weigh_89 at h
  refine q_iinc C 3 (v := v4 + 1) (lv' := [(4, .int (v4 + 1)), (0, .ref (qa g o)), (1, .ref (qa g a1)), (3, .int v3)]) dX2_weigh_89 rfl rfl (by decide) rfl ?_
  refine q_norm [1, 2, 3, 0] rfl ?_
  refine q_goto (tgt := 36) C dX2_weigh_92 (by decide) ?_
  exact hK36 v3 (v4 + 1) S h
def B2_weigh_83 (n : Nat) (o : Nat) (a1 : Nat) (K36 : Int32 → Int32 → qSt → Option qSt) (K52 : Int32 → Int32 → Int32 → qSt → Option qSt) (v3 : Int32) (v4 : Int32) (v5 : Int32) (S : qSt) : Option qSt := K52 v3 v4 (v5 + 1) S
set_option maxRecDepth 100000 in
set_option maxHeartbeats 4000000 in
theorem W2_weigh_83 {S2 : qSt} (C : qC g cX2_weigh RX2 6 p s m meth c) (hr : meth.sig.returnType = none) (n : Nat) (o : Nat) (ho : tyR o) (a1 : Nat) (ha1 : tyT a1) (K36 : Int32 → Int32 → qSt → Option qSt) (hK36 : ∀ (v3 : Int32) (v4 : Int32) (S : qSt), K36 v3 v4 S = some S2 → qR g NL qT 6 p l e rmX2_weigh s m args below meth c 0 0 (MQ below (qQv g NL qT (qmem g S2)) args s 0 0 (qA g)) (qmem g S) 36 [(0, .ref (qa g o)), (1, .ref (qa g a1)), (3, .int v3), (4, .int v4)] []) (K52 : Int32 → Int32 → Int32 → qSt → Option qSt) (hK52 : ∀ (v3 : Int32) (v4 : Int32) (v5 : Int32) (S : qSt), K52 v3 v4 v5 S = some S2 → qR g NL qT 6 p l e rmX2_weigh s m args below meth c 0 0 (MQ below (qQv g NL qT (qmem g S2)) args s 0 0 (qA g)) (qmem g S) 52 [(0, .ref (qa g o)), (1, .ref (qa g a1)), (3, .int v3), (4, .int v4), (5, .int v5)] []) (v3 : Int32) (v4 : Int32) (v5 : Int32) (S : qSt) (h : B2_weigh_83 n o a1 K36 K52 v3 v4 v5 S = some S2) : qR g NL qT 6 p l e rmX2_weigh s m args below meth c 0 0 (MQ below (qQv g NL qT (qmem g S2)) args s 0 0 (qA g)) (qmem g S) 83 [(0, .ref (qa g o)), (1, .ref (qa g a1)), (3, .int v3), (4, .int v4), (5, .int v5)] [] := by
  unfold B2_weigh_83 at h
  refine q_iinc C 4 (v := v5 + 1) (lv' := [(5, .int (v5 + 1)), (0, .ref (qa g o)), (1, .ref (qa g a1)), (3, .int v3), (4, .int v4)]) dX2_weigh_83 rfl rfl (by decide) rfl ?_
  refine q_norm [1, 2, 3, 4, 0] rfl ?_
  refine q_goto (tgt := 52) C dX2_weigh_86 (by decide) ?_
  exact hK52 v3 v4 (v5 + 1) S h
def B2_weigh_52 (n : Nat) (o : Nat) (a1 : Nat) (K36 : Int32 → Int32 → qSt → Option qSt) : Nat → Int32 → Int32 → Int32 → qSt → Option qSt
  | 0, _, _, _, _ => none
  | n9 + 1, v3, v4, v5, S => if (S a1 1) ≤ v5 then (B2_weigh_89 n o a1 K36 v3 v4 S) else (if qin v5 21 = true then if ¬ (S (a1 + 4) v5.toNatClampNeg) = 0 then (B2_weigh_83 n o a1 K36 (B2_weigh_52 n o a1 K36 n9) v3 v4 v5 S) else (ob2 (F2_improves o a1 v5 S) fun r3 S4 => if r3 = 0 then (B2_weigh_83 n o a1 K36 (B2_weigh_52 n o a1 K36 n9) v3 v4 v5 S4) else (B2_weigh_83 n o a1 K36 (B2_weigh_52 n o a1 K36 n9) 1 v4 v5 S4)) else none)
set_option maxRecDepth 100000 in
set_option maxHeartbeats 4000000 in
theorem W2_weigh_52 {S2 : qSt} (C : qC g cX2_weigh RX2 6 p s m meth c) (hr : meth.sig.returnType = none) (n : Nat) (o : Nat) (ho : tyR o) (a1 : Nat) (ha1 : tyT a1) (K36 : Int32 → Int32 → qSt → Option qSt) (hK36 : ∀ (v3 : Int32) (v4 : Int32) (S : qSt), K36 v3 v4 S = some S2 → qR g NL qT 6 p l e rmX2_weigh s m args below meth c 0 0 (MQ below (qQv g NL qT (qmem g S2)) args s 0 0 (qA g)) (qmem g S) 36 [(0, .ref (qa g o)), (1, .ref (qa g a1)), (3, .int v3), (4, .int v4)] []) : ∀ (n9 : Nat) (v3 : Int32) (v4 : Int32) (v5 : Int32) (S : qSt), B2_weigh_52 n o a1 K36 n9 v3 v4 v5 S = some S2 → qR g NL qT 6 p l e rmX2_weigh s m args below meth c 0 0 (MQ below (qQv g NL qT (qmem g S2)) args s 0 0 (qA g)) (qmem g S) 52 [(0, .ref (qa g o)), (1, .ref (qa g a1)), (3, .int v3), (4, .int v4), (5, .int v5)] [] := by
  intro n9
  induction n9 with
  | zero =>
    intro v3 v4 v5 S h
    have h9 : (none : Option qSt) = some S2 := h
    cases h9
  | succ n9 ih =>
    intro v3 v4 v5 S h
    rw [B2_weigh_52] at h
    refine q_iload C 4 dX2_weigh_52 rfl ?_
    refine q_aload_n C 1 dX2_weigh_54 rfl rfl ?_
    refine s_geti C lf2_26 ha1.l0 ha1.k0 dX2_weigh_55 ?_
    refine q_icmp_ge (tgt := 89) C h dX2_weigh_58 (by decide) (fun h => ?_) (fun h => ?_)
    · refine q_norm [0, 1, 2, 3] rfl ?_
      exact W2_weigh_89 C hr n o ho a1 ha1 K36 hK36 v3 v4 S h
    · refine q_aload_n C 1 dX2_weigh_61 rfl rfl ?_
      refine s_getr (a := (a1 + 4)) C lf2_31 ha1.l0 ha1.k0 rfl dX2_weigh_62 ?_
      refine q_iload C 4 dX2_weigh_65 rfl ?_
      obtain ⟨hb1, h⟩ := q_if h
      refine s_zald C ha1.l4 ha1.k4 hb1 dX2_weigh_67 ?_
      refine q_if_ne (tgt := 83) C h dX2_weigh_68 (by decide) (fun h => ?_) (fun h => ?_)
      · exact W2_weigh_83 C hr n o ho a1 ha1 K36 hK36 (B2_weigh_52 n o a1 K36 n9) ih v3 v4 v5 S h
      · refine q_aload_n C 0 dX2_weigh_71 rfl rfl ?_
        refine q_aload_n C 1 dX2_weigh_72 rfl rfl ?_
        refine q_iload C 4 dX2_weigh_73 rfl ?_
        obtain ⟨r3, S4, hc2, h⟩ := ob2_e h
        refine q_callVi0 C ho.l0 (qmem_o ho.k0 (Nat.le_of_ble_eq_true rfl)) rfl rfl (kX2_improves o (ho) a1 (ha1) v5 S hc2) lm2_35 rfl (rest := []) rfl (Nat.le_of_ble_eq_true rfl) dX2_weigh_75 ⟨rfl, rfl, Nat.le_of_ble_eq_true rfl, Nat.le_of_ble_eq_true rfl, Nat.le_of_ble_eq_true rfl, Nat.le_of_ble_eq_true rfl⟩ ?_
        refine q_if_eq (tgt := 83) C h dX2_weigh_78 (by decide) (fun h => ?_) (fun h => ?_)
        · exact W2_weigh_83 C hr n o ho a1 ha1 K36 hK36 (B2_weigh_52 n o a1 K36 n9) ih v3 v4 v5 S4 h
        · refine q_iconst (v := 1) C dX2_weigh_81 (by decide) ?_
          refine q_istore_n C (lv' := [(3, .int 1), (0, .ref (qa g o)), (1, .ref (qa g a1)), (4, .int v4), (5, .int v5)]) dX2_weigh_82 rfl (by decide) rfl ?_
          refine q_norm [1, 2, 0, 3, 4] rfl ?_
          exact W2_weigh_83 C hr n o ho a1 ha1 K36 hK36 (B2_weigh_52 n o a1 K36 n9) ih 1 v4 v5 S4 h
def B2_weigh_36 (n : Nat) (o : Nat) (a1 : Nat) : Nat → Int32 → Int32 → qSt → Option qSt
  | 0, _, _, _ => none
  | n9 + 1, v3, v4, S => if v3 = 0 then (some S) else (if 9 ≤ v4 then (some S) else (B2_weigh_52 n o a1 (B2_weigh_36 n o a1 n9) n 0 v4 0 S))
set_option maxRecDepth 100000 in
set_option maxHeartbeats 4000000 in
theorem W2_weigh_36 {S2 : qSt} (C : qC g cX2_weigh RX2 6 p s m meth c) (hr : meth.sig.returnType = none) (n : Nat) (o : Nat) (ho : tyR o) (a1 : Nat) (ha1 : tyT a1) : ∀ (n9 : Nat) (v3 : Int32) (v4 : Int32) (S : qSt), B2_weigh_36 n o a1 n9 v3 v4 S = some S2 → qR g NL qT 6 p l e rmX2_weigh s m args below meth c 0 0 (MQ below (qQv g NL qT (qmem g S2)) args s 0 0 (qA g)) (qmem g S) 36 [(0, .ref (qa g o)), (1, .ref (qa g a1)), (3, .int v3), (4, .int v4)] [] := by
  intro n9
  induction n9 with
  | zero =>
    intro v3 v4 S h
    have h9 : (none : Option qSt) = some S2 := h
    cases h9
  | succ n9 ih =>
    intro v3 v4 S h
    rw [B2_weigh_36] at h
    refine q_iload_n C 2 dX2_weigh_36 rfl rfl ?_
    refine q_if_eq (tgt := 95) C h dX2_weigh_37 (by decide) (fun h => ?_) (fun h => ?_)
    · obtain rfl := Option.some.inj h
      exact q_vret C hr (Nat.le_refl 0) (Nat.le_refl 0) dX2_weigh_95
    · refine q_iload C 3 dX2_weigh_40 rfl ?_
      refine q_bipush (v := 9) C dX2_weigh_42 (by decide) ?_
      refine q_icmp_ge (tgt := 95) C h dX2_weigh_44 (by decide) (fun h => ?_) (fun h => ?_)
      · obtain rfl := Option.some.inj h
        exact q_vret C hr (Nat.le_refl 0) (Nat.le_refl 0) dX2_weigh_95
      · refine q_iconst (v := 0) C dX2_weigh_47 (by decide) ?_
        refine q_istore_n C (lv' := [(3, .int 0), (0, .ref (qa g o)), (1, .ref (qa g a1)), (4, .int v4)]) dX2_weigh_48 rfl (by decide) rfl ?_
        refine q_norm [1, 2, 0, 3] rfl ?_
        refine q_iconst (v := 0) C dX2_weigh_49 (by decide) ?_
        refine q_istore C (lv' := [(5, .int 0), (0, .ref (qa g o)), (1, .ref (qa g a1)), (3, .int 0), (4, .int v4)]) dX2_weigh_50 (by decide) rfl ?_
        refine q_norm [1, 2, 3, 4, 0] rfl ?_
        exact W2_weigh_52 C hr n o ho a1 ha1 (B2_weigh_36 n o a1 n9) ih n 0 v4 0 S h
def B2_weigh_31 (n : Nat) (o : Nat) (a1 : Nat) (S : qSt) : Option qSt := B2_weigh_36 n o a1 n 1 0 S
set_option maxRecDepth 100000 in
set_option maxHeartbeats 4000000 in
theorem W2_weigh_31 {S2 : qSt} (C : qC g cX2_weigh RX2 6 p s m meth c) (hr : meth.sig.returnType = none) (n : Nat) (o : Nat) (ho : tyR o) (a1 : Nat) (ha1 : tyT a1) (S : qSt) (h : B2_weigh_31 n o a1 S = some S2) : qR g NL qT 6 p l e rmX2_weigh s m args below meth c 0 0 (MQ below (qQv g NL qT (qmem g S2)) args s 0 0 (qA g)) (qmem g S) 31 [(0, .ref (qa g o)), (1, .ref (qa g a1))] [] := by
  unfold B2_weigh_31 at h
  refine q_iconst (v := 1) C dX2_weigh_31 (by decide) ?_
  refine q_istore_n C (lv' := [(3, .int 1), (0, .ref (qa g o)), (1, .ref (qa g a1))]) dX2_weigh_32 rfl (by decide) rfl ?_
  refine q_norm [1, 2, 0] rfl ?_
  refine q_iconst (v := 0) C dX2_weigh_33 (by decide) ?_
  refine q_istore C (lv' := [(4, .int 0), (0, .ref (qa g o)), (1, .ref (qa g a1)), (3, .int 1)]) dX2_weigh_34 (by decide) rfl ?_
  refine q_norm [1, 2, 3, 0] rfl ?_
  exact W2_weigh_36 C hr n o ho a1 ha1 n 1 0 S h
def B2_weigh_24 (n : Nat) (o : Nat) (a1 : Nat) (K2 : Int32 → Int32 → qSt → Option qSt) (v2 : Int32) (v3 : Int32) (t1 : Int32) (t2 : Int32) (S : qSt) : Option qSt := if qin t1 9 = true then obs (qup S (o + 1) t1.toNatClampNeg t2) fun S6 => K2 v2 (v3 + 1) S6 else none
set_option maxRecDepth 100000 in
set_option maxHeartbeats 4000000 in
theorem W2_weigh_24 {S2 : qSt} (C : qC g cX2_weigh RX2 6 p s m meth c) (hr : meth.sig.returnType = none) (n : Nat) (o : Nat) (ho : tyR o) (a1 : Nat) (ha1 : tyT a1) (K2 : Int32 → Int32 → qSt → Option qSt) (hK2 : ∀ (v2 : Int32) (v3 : Int32) (S : qSt), K2 v2 v3 S = some S2 → qR g NL qT 6 p l e rmX2_weigh s m args below meth c 0 0 (MQ below (qQv g NL qT (qmem g S2)) args s 0 0 (qA g)) (qmem g S) 2 [(0, .ref (qa g o)), (1, .ref (qa g a1)), (2, .int v2), (3, .int v3)] []) (v2 : Int32) (v3 : Int32) (t1 : Int32) (t2 : Int32) (S : qSt) (h : B2_weigh_24 n o a1 K2 v2 v3 t1 t2 S = some S2) : qR g NL qT 6 p l e rmX2_weigh s m args below meth c 0 0 (MQ below (qQv g NL qT (qmem g S2)) args s 0 0 (qA g)) (qmem g S) 24 [(0, .ref (qa g o)), (1, .ref (qa g a1)), (2, .int v2), (3, .int v3)] [.int t2, .int t1, .ref (qa g (o + 1))] := by
  unfold B2_weigh_24 at h
  obtain ⟨hb5, h⟩ := q_if h
  obtain ⟨S6, hS6, h⟩ := obs_e h
  refine s_iast C ho.l1 ho.k1 hb5 dX2_weigh_24 ?_
  rw [← hS6]
  refine q_iinc C 3 (v := v3 + 1) (lv' := [(3, .int (v3 + 1)), (0, .ref (qa g o)), (1, .ref (qa g a1)), (2, .int v2)]) dX2_weigh_25 rfl rfl (by decide) rfl ?_
  refine q_norm [1, 2, 3, 0] rfl ?_
  refine q_goto (tgt := 2) C dX2_weigh_28 (by decide) ?_
  exact hK2 v2 (v3 + 1) S6 h
def B2_weigh_2 (n : Nat) (o : Nat) (a1 : Nat) : Nat → Int32 → Int32 → qSt → Option qSt
  | 0, _, _, _ => none
  | n9 + 1, v2, v3, S => if 9 ≤ v3 then (B2_weigh_31 n o a1 S) else (if ¬ v3 = v2 then (B2_weigh_24 n o a1 (B2_weigh_2 n o a1 n9) v2 v3 v3 1000000 S) else (B2_weigh_24 n o a1 (B2_weigh_2 n o a1 n9) v2 v3 v3 0 S))
set_option maxRecDepth 100000 in
set_option maxHeartbeats 4000000 in
theorem W2_weigh_2 {S2 : qSt} (C : qC g cX2_weigh RX2 6 p s m meth c) (hr : meth.sig.returnType = none) (n : Nat) (o : Nat) (ho : tyR o) (a1 : Nat) (ha1 : tyT a1) : ∀ (n9 : Nat) (v2 : Int32) (v3 : Int32) (S : qSt), B2_weigh_2 n o a1 n9 v2 v3 S = some S2 → qR g NL qT 6 p l e rmX2_weigh s m args below meth c 0 0 (MQ below (qQv g NL qT (qmem g S2)) args s 0 0 (qA g)) (qmem g S) 2 [(0, .ref (qa g o)), (1, .ref (qa g a1)), (2, .int v2), (3, .int v3)] [] := by
  intro n9
  induction n9 with
  | zero =>
    intro v2 v3 S h
    have h9 : (none : Option qSt) = some S2 := h
    cases h9
  | succ n9 ih =>
    intro v2 v3 S h
    rw [B2_weigh_2] at h
    refine q_iload_n C 3 dX2_weigh_2 rfl rfl ?_
    refine q_bipush (v := 9) C dX2_weigh_3 (by decide) ?_
    refine q_icmp_ge (tgt := 31) C h dX2_weigh_5 (by decide) (fun h => ?_) (fun h => ?_)
    · refine q_norm [0, 1] rfl ?_
      exact W2_weigh_31 C hr n o ho a1 ha1 S h
    · refine q_aload_n C 0 dX2_weigh_8 rfl rfl ?_
      refine s_getr (a := (o + 1)) C lf2_9 ho.l0 ho.k0 rfl dX2_weigh_9 ?_
      refine q_iload_n C 3 dX2_weigh_12 rfl rfl ?_
      refine q_iload_n C 3 dX2_weigh_13 rfl rfl ?_
      refine q_iload_n C 2 dX2_weigh_14 rfl rfl ?_
      refine q_icmp_ne (tgt := 22) C h dX2_weigh_15 (by decide) (fun h => ?_) (fun h => ?_)
      · refine q_ldc (v := 1000000) C lc2_25 dX2_weigh_22 ?_
        exact W2_weigh_24 C hr n o ho a1 ha1 (B2_weigh_2 n o a1 n9) ih v2 v3 v3 1000000 S h
      · refine q_iconst (v := 0) C dX2_weigh_18 (by decide) ?_
        refine q_goto (tgt := 24) C dX2_weigh_19 (by decide) ?_
        exact W2_weigh_24 C hr n o ho a1 ha1 (B2_weigh_2 n o a1 n9) ih v2 v3 v3 0 S h
def F2_weigh (n : Nat) (o : Nat) (a1 : Nat) (v2 : Int32) (S : qSt) : Option qSt := B2_weigh_2 n o a1 n v2 0 S
set_option maxRecDepth 100000 in
set_option maxHeartbeats 4000000 in
theorem kX2_weigh {l : Launch} {g : qG} (n : Nat) (o : Nat) (ho : tyR o) (a1 : Nat) (ha1 : tyT a1) (v2 : Int32) (S : qSt) {S2 : qSt} (h : F2_weigh n o a1 v2 S = some S2) : Met l yX2_weigh [.code yX2_weigh cX2_weigh 6 none] rmX2_weigh (qPc g NL qT (qmem g S) [.ref (qa g o), .ref (qa g a1), .int v2]) (qQv g NL qT (qmem g S2)) 0 0 (qA g) := by
  refine q_met (by decide) (Nat.le_of_ble_eq_true rfl) (fun p e s m args below meth c C hr _ => ?_)
  have C : qC g cX2_weigh RX2 6 p s m meth c := C
  show qR g NL qT 6 p l e rmX2_weigh s m args below meth c 0 0 (MQ below (qQv g NL qT (qmem g S2)) args s 0 0 (qA g)) (qmem g S) 0 [(0, .ref (qa g o)), (1, .ref (qa g a1)), (2, .int v2)] []
  unfold F2_weigh at h
  refine q_iconst (v := 0) C dX2_weigh_0 (by decide) ?_
  refine q_istore_n C (lv' := [(3, .int 0), (0, .ref (qa g o)), (1, .ref (qa g a1)), (2, .int v2)]) dX2_weigh_1 rfl (by decide) rfl ?_
  refine q_norm [1, 2, 3, 0] rfl ?_
  exact W2_weigh_2 C hr n o ho a1 ha1 n v2 0 S h
/-! ClosedStreets$Route.lengthFrom -/
abbrev rmX2_lengthFrom : Room := { frames := 0, cells := 0, slots := 0, locals := 0 }
def F2_lengthFrom (o : Nat) (v1 : Int32) (S : qSt) : Option Int32 := if v1 < 0 then (some (-999)) else (if 9 ≤ v1 then (some (-999)) else (if qin v1 9 = true then if ¬ (S (o + 1) v1.toNatClampNeg) = 1000000 then (some ((S (o + 1) v1.toNatClampNeg) / 16)) else (some (-999)) else none))
set_option maxRecDepth 100000 in
set_option maxHeartbeats 4000000 in
theorem kX2_lengthFrom {l : Launch} {g : qG} (o : Nat) (ho : tyR o) (v1 : Int32) (S : qSt) {r : Int32} (h : F2_lengthFrom o v1 S = some r) : Met l yX2_lengthFrom [.code yX2_lengthFrom cX2_lengthFrom 2 (some .int)] rmX2_lengthFrom (qPc g NL qT (qmem g S) [.ref (qa g o), .int v1]) (qQi g NL qT (qmem g S) r) 0 0 (qA g) := by
  refine q_met (by decide) (Nat.le_of_ble_eq_true rfl) (fun p e s m args below meth c C hr _ => ?_)
  have C : qC g cX2_lengthFrom RX2 2 p s m meth c := C
  show qR g NL qT 2 p l e rmX2_lengthFrom s m args below meth c 0 0 (MQ below (qQi g NL qT (qmem g S) r) args s 0 0 (qA g)) (qmem g S) 0 [(0, .ref (qa g o)), (1, .int v1)] []
  unfold F2_lengthFrom at h
  refine q_iload_n C 1 dX2_lengthFrom_0 rfl rfl ?_
  refine q_if_lt (tgt := 21) C h dX2_lengthFrom_1 (by decide) (fun h => ?_) (fun h => ?_)
  · refine q_sipush (v := (-999)) C dX2_lengthFrom_21 (by decide) ?_
    obtain rfl := Option.some.inj h
    exact q_iret C hr (Nat.le_refl 0) (Nat.le_refl 0) dX2_lengthFrom_24
  · refine q_iload_n C 1 dX2_lengthFrom_4 rfl rfl ?_
    refine q_bipush (v := 9) C dX2_lengthFrom_5 (by decide) ?_
    refine q_icmp_ge (tgt := 21) C h dX2_lengthFrom_7 (by decide) (fun h => ?_) (fun h => ?_)
    · refine q_sipush (v := (-999)) C dX2_lengthFrom_21 (by decide) ?_
      obtain rfl := Option.some.inj h
      exact q_iret C hr (Nat.le_refl 0) (Nat.le_refl 0) dX2_lengthFrom_24
    · refine q_aload_n C 0 dX2_lengthFrom_10 rfl rfl ?_
      refine s_getr (a := (o + 1)) C lf2_9 ho.l0 ho.k0 rfl dX2_lengthFrom_11 ?_
      refine q_iload_n C 1 dX2_lengthFrom_14 rfl rfl ?_
      obtain ⟨hb1, h⟩ := q_if h
      refine s_iald C ho.l1 ho.k1 hb1 dX2_lengthFrom_15 ?_
      refine q_ldc (v := 1000000) C lc2_25 dX2_lengthFrom_16 ?_
      refine q_icmp_ne (tgt := 25) C h dX2_lengthFrom_18 (by decide) (fun h => ?_) (fun h => ?_)
      · refine q_aload_n C 0 dX2_lengthFrom_25 rfl rfl ?_
        refine s_getr (a := (o + 1)) C lf2_9 ho.l0 ho.k0 rfl dX2_lengthFrom_26 ?_
        refine q_iload_n C 1 dX2_lengthFrom_29 rfl rfl ?_
        refine s_iald C ho.l1 ho.k1 hb1 dX2_lengthFrom_30 ?_
        refine q_bipush (v := 16) C dX2_lengthFrom_31 (by decide) ?_
        refine q_idiv C dX2_lengthFrom_33 (by decide) ?_
        obtain rfl := Option.some.inj h
        exact q_iret C hr (Nat.le_refl 0) (Nat.le_refl 0) dX2_lengthFrom_34
      · refine q_sipush (v := (-999)) C dX2_lengthFrom_21 (by decide) ?_
        obtain rfl := Option.some.inj h
        exact q_iret C hr (Nat.le_refl 0) (Nat.le_refl 0) dX2_lengthFrom_24
/-! ClosedStreets$Route.nextBehind -/
abbrev rmX2_nextBehind : Room := { frames := 2, cells := 0, slots := 0, locals := 80 }
def B2_nextBehind_72 (n : Nat) (o : Nat) (a1 : Nat) (K7 : Int32 → Int32 → Int32 → qSt → Option Int32) (v2 : Int32) (v3 : Int32) (v4 : Int32) (S : qSt) : Option Int32 := K7 v2 v3 (v4 + 1) S
set_option maxRecDepth 100000 in
set_option maxHeartbeats 4000000 in
theorem W2_nextBehind_72 {r : Int32} (C : qC g cX2_nextBehind RX2 6 p s m meth c) (hr : meth.sig.returnType = (some .int)) (n : Nat) (o : Nat) (ho : tyR o) (a1 : Nat) (ha1 : tyT a1) (K7 : Int32 → Int32 → Int32 → qSt → Option Int32) (hK7 : ∀ (v2 : Int32) (v3 : Int32) (v4 : Int32) (S : qSt), K7 v2 v3 v4 S = some r → qR g NL qT 6 p l e rmX2_nextBehind s m args below meth c 0 0 (MQ below (qQi g NL qT (qmem g S) r) args s 0 0 (qA g)) (qmem g S) 7 [(0, .ref (qa g o)), (1, .ref (qa g a1)), (2, .int v2), (3, .int v3), (4, .int v4)] []) (v2 : Int32) (v3 : Int32) (v4 : Int32) (S : qSt) (h : B2_nextBehind_72 n o a1 K7 v2 v3 v4 S = some r) : qR g NL qT 6 p l e rmX2_nextBehind s m args below meth c 0 0 (MQ below (qQi g NL qT (qmem g S) r) args s 0 0 (qA g)) (qmem g S) 72 [(0, .ref (qa g o)), (1, .ref (qa g a1)), (2, .int v2), (3, .int v3), (4, .int v4)] [] := by
  unfold B2_nextBehind_72 at h
  refine q_iinc C 4 (v := v4 + 1) (lv' := [(4, .int (v4 + 1)), (0, .ref (qa g o)), (1, .ref (qa g a1)), (2, .int v2), (3, .int v3)]) dX2_nextBehind_72 rfl rfl (by decide) rfl ?_
  refine q_norm [1, 2, 3, 4, 0] rfl ?_
  refine q_goto (tgt := 7) C dX2_nextBehind_75 (by decide) ?_
  exact hK7 v2 v3 (v4 + 1) S h
def B2_nextBehind_69 (n : Nat) (o : Nat) (a1 : Nat) (K7 : Int32 → Int32 → Int32 → qSt → Option Int32) (v2 : Int32) (v4 : Int32) (v5 : Int32) (S : qSt) : Option Int32 := B2_nextBehind_72 n o a1 K7 v2 v5 v4 S
set_option maxRecDepth 100000 in
set_option maxHeartbeats 4000000 in
theorem W2_nextBehind_69 {r : Int32} (C : qC g cX2_nextBehind RX2 6 p s m meth c) (hr : meth.sig.returnType = (some .int)) (n : Nat) (o : Nat) (ho : tyR o) (a1 : Nat) (ha1 : tyT a1) (K7 : Int32 → Int32 → Int32 → qSt → Option Int32) (hK7 : ∀ (v2 : Int32) (v3 : Int32) (v4 : Int32) (S : qSt), K7 v2 v3 v4 S = some r → qR g NL qT 6 p l e rmX2_nextBehind s m args below meth c 0 0 (MQ below (qQi g NL qT (qmem g S) r) args s 0 0 (qA g)) (qmem g S) 7 [(0, .ref (qa g o)), (1, .ref (qa g a1)), (2, .int v2), (3, .int v3), (4, .int v4)] []) (v2 : Int32) (v4 : Int32) (v5 : Int32) (S : qSt) (h : B2_nextBehind_69 n o a1 K7 v2 v4 v5 S = some r) : qR g NL qT 6 p l e rmX2_nextBehind s m args below meth c 0 0 (MQ below (qQi g NL qT (qmem g S) r) args s 0 0 (qA g)) (qmem g S) 69 [(0, .ref (qa g o)), (1, .ref (qa g a1)), (2, .int v2), (4, .int v4), (5, .int v5)] [] := by
  unfold B2_nextBehind_69 at h
  refine q_iload C 4 dX2_nextBehind_69 rfl ?_
  refine q_istore_n C (lv' := [(3, .int v5), (0, .ref (qa g o)), (1, .ref (qa g a1)), (2, .int v2), (4, .int v4), (5, .int v5)]) dX2_nextBehind_71 rfl (by decide) rfl ?_
  refine q_norm [1, 2, 3, 0, 4, 5] rfl ?_
  refine q_norm [0, 1, 2, 3, 4] rfl ?_
  exact W2_nextBehind_72 C hr n o ho a1 ha1 K7 hK7 v2 v5 v4 S h
def B2_nextBehind_7 (n : Nat) (o : Nat) (a1 : Nat) : Nat → Int32 → Int32 → Int32 → qSt → Option Int32
  | 0, _, _, _, _ => none
  | n9 + 1, v2, v3, v4, S => if (S a1 1) ≤ v4 then (some v3) else (ob1 (F5_reachedThrough a1 v4 v2 S) fun r2 => if r2 = (-999) then (B2_nextBehind_72 n o a1 (B2_nextBehind_7 n o a1 n9) v2 v3 v4 S) else (if qin r2 9 = true then ob1 (F2_weightOf a1 v4 S) fun r5 => if qin v2 9 = true then if ¬ ((S (o + 1) r2.toNatClampNeg) + r5) = (S (o + 1) v2.toNatClampNeg) then (B2_nextBehind_72 n o a1 (B2_nextBehind_7 n o a1 n9) v2 v3 v4 S) else (if v3 = (-999) then (B2_nextBehind_69 n o a1 (B2_nextBehind_7 n o a1 n9) v2 v4 r2 S) else (if v3 ≤ r2 then (B2_nextBehind_72 n o a1 (B2_nextBehind_7 n o a1 n9) v2 v3 v4 S) else (B2_nextBehind_69 n o a1 (B2_nextBehind_7 n o a1 n9) v2 v4 r2 S))) else none else none))
set_option maxRecDepth 100000 in
set_option maxHeartbeats 4000000 in
theorem W2_nextBehind_7 {r : Int32} (C : qC g cX2_nextBehind RX2 6 p s m meth c) (hr : meth.sig.returnType = (some .int)) (n : Nat) (o : Nat) (ho : tyR o) (a1 : Nat) (ha1 : tyT a1) : ∀ (n9 : Nat) (v2 : Int32) (v3 : Int32) (v4 : Int32) (S : qSt), B2_nextBehind_7 n o a1 n9 v2 v3 v4 S = some r → qR g NL qT 6 p l e rmX2_nextBehind s m args below meth c 0 0 (MQ below (qQi g NL qT (qmem g S) r) args s 0 0 (qA g)) (qmem g S) 7 [(0, .ref (qa g o)), (1, .ref (qa g a1)), (2, .int v2), (3, .int v3), (4, .int v4)] [] := by
  intro n9
  induction n9 with
  | zero =>
    intro v2 v3 v4 S h
    have h9 : (none : Option Int32) = some r := h
    cases h9
  | succ n9 ih =>
    intro v2 v3 v4 S h
    rw [B2_nextBehind_7] at h
    refine q_iload C 4 dX2_nextBehind_7 rfl ?_
    refine q_aload_n C 1 dX2_nextBehind_9 rfl rfl ?_
    refine s_geti C lf2_26 ha1.l0 ha1.k0 dX2_nextBehind_10 ?_
    refine q_icmp_ge (tgt := 78) C h dX2_nextBehind_13 (by decide) (fun h => ?_) (fun h => ?_)
    · refine q_iload_n C 3 dX2_nextBehind_78 rfl rfl ?_
      obtain rfl := Option.some.inj h
      exact q_iret C hr (Nat.le_refl 0) (Nat.le_refl 0) dX2_nextBehind_79
    · refine q_aload_n C 1 dX2_nextBehind_16 rfl rfl ?_
      refine q_iload C 4 dX2_nextBehind_17 rfl ?_
      refine q_iload_n C 2 dX2_nextBehind_19 rfl rfl ?_
      obtain ⟨r2, hc1, h⟩ := ob1_e h
      refine q_callVi0 C ha1.l0 (qmem_o ha1.k0 (Nat.le_of_ble_eq_true rfl)) rfl rfl (kX5_reachedThrough a1 (ha1) v4 v2 S hc1) lm2_65 rfl (rest := []) rfl (Nat.le_of_ble_eq_true rfl) dX2_nextBehind_20 ⟨rfl, rfl, Nat.le_of_ble_eq_true rfl, Nat.le_of_ble_eq_true rfl, Nat.le_of_ble_eq_true rfl, Nat.le_of_ble_eq_true rfl⟩ ?_
      refine q_istore C (lv' := [(5, .int r2), (0, .ref (qa g o)), (1, .ref (qa g a1)), (2, .int v2), (3, .int v3), (4, .int v4)]) dX2_nextBehind_23 (by decide) rfl ?_
      refine q_norm [1, 2, 3, 4, 5, 0] rfl ?_
      refine q_iload C 5 dX2_nextBehind_25 rfl ?_
      refine q_sipush (v := (-999)) C dX2_nextBehind_27 (by decide) ?_
      refine q_icmp_eq (tgt := 72) C h dX2_nextBehind_30 (by decide) (fun h => ?_) (fun h => ?_)
      · refine q_norm [0, 1, 2, 3, 4] rfl ?_
        exact W2_nextBehind_72 C hr n o ho a1 ha1 (B2_nextBehind_7 n o a1 n9) ih v2 v3 v4 S h
      · refine q_aload_n C 0 dX2_nextBehind_33 rfl rfl ?_
        refine s_getr (a := (o + 1)) C lf2_9 ho.l0 ho.k0 rfl dX2_nextBehind_34 ?_
        refine q_iload C 5 dX2_nextBehind_37 rfl ?_
        obtain ⟨hb3, h⟩ := q_if h
        refine s_iald C ho.l1 ho.k1 hb3 dX2_nextBehind_39 ?_
        refine q_aload_n C 1 dX2_nextBehind_40 rfl rfl ?_
        refine q_iload C 4 dX2_nextBehind_41 rfl ?_
        obtain ⟨r5, hc4, h⟩ := ob1_e h
        refine q_callSi0 C (kX2_weightOf a1 (ha1) v4 S hc4) lm2_45 rfl (rest := [.int (S (o + 1) r2.toNatClampNeg)]) rfl (Nat.le_of_ble_eq_true rfl) dX2_nextBehind_43 ⟨rfl, rfl, Nat.le_of_ble_eq_true rfl, Nat.le_of_ble_eq_true rfl, Nat.le_of_ble_eq_true rfl, Nat.le_of_ble_eq_true rfl⟩ ?_
        refine q_iadd C dX2_nextBehind_46 ?_
        refine q_aload_n C 0 dX2_nextBehind_47 rfl rfl ?_
        refine s_getr (a := (o + 1)) C lf2_9 ho.l0 ho.k0 rfl dX2_nextBehind_48 ?_
        refine q_iload_n C 2 dX2_nextBehind_51 rfl rfl ?_
        obtain ⟨hb6, h⟩ := q_if h
        refine s_iald C ho.l1 ho.k1 hb6 dX2_nextBehind_52 ?_
        refine q_icmp_ne (tgt := 72) C h dX2_nextBehind_53 (by decide) (fun h => ?_) (fun h => ?_)
        · refine q_norm [0, 1, 2, 3, 4] rfl ?_
          exact W2_nextBehind_72 C hr n o ho a1 ha1 (B2_nextBehind_7 n o a1 n9) ih v2 v3 v4 S h
        · refine q_iload_n C 3 dX2_nextBehind_56 rfl rfl ?_
          refine q_sipush (v := (-999)) C dX2_nextBehind_57 (by decide) ?_
          refine q_icmp_eq (tgt := 69) C h dX2_nextBehind_60 (by decide) (fun h => ?_) (fun h => ?_)
          · refine q_norm [0, 1, 2, 4, 5] rfl ?_
            exact W2_nextBehind_69 C hr n o ho a1 ha1 (B2_nextBehind_7 n o a1 n9) ih v2 v4 r2 S h
          · refine q_iload C 5 dX2_nextBehind_63 rfl ?_
            refine q_iload_n C 3 dX2_nextBehind_65 rfl rfl ?_
            refine q_icmp_ge (tgt := 72) C h dX2_nextBehind_66 (by decide) (fun h => ?_) (fun h => ?_)
            · refine q_norm [0, 1, 2, 3, 4] rfl ?_
              exact W2_nextBehind_72 C hr n o ho a1 ha1 (B2_nextBehind_7 n o a1 n9) ih v2 v3 v4 S h
            · refine q_norm [0, 1, 2, 4, 5] rfl ?_
              exact W2_nextBehind_69 C hr n o ho a1 ha1 (B2_nextBehind_7 n o a1 n9) ih v2 v4 r2 S h
def F2_nextBehind (n : Nat) (o : Nat) (a1 : Nat) (v2 : Int32) (S : qSt) : Option Int32 := B2_nextBehind_7 n o a1 n v2 (-999) 0 S
set_option maxRecDepth 100000 in
set_option maxHeartbeats 4000000 in
theorem kX2_nextBehind {l : Launch} {g : qG} (n : Nat) (o : Nat) (ho : tyR o) (a1 : Nat) (ha1 : tyT a1) (v2 : Int32) (S : qSt) {r : Int32} (h : F2_nextBehind n o a1 v2 S = some r) : Met l yX2_nextBehind [.code yX2_nextBehind cX2_nextBehind 6 (some .int)] rmX2_nextBehind (qPc g NL qT (qmem g S) [.ref (qa g o), .ref (qa g a1), .int v2]) (qQi g NL qT (qmem g S) r) 0 0 (qA g) := by
  refine q_met (by decide) (Nat.le_of_ble_eq_true rfl) (fun p e s m args below meth c C hr _ => ?_)
  have C : qC g cX2_nextBehind RX2 6 p s m meth c := C
  show qR g NL qT 6 p l e rmX2_nextBehind s m args below meth c 0 0 (MQ below (qQi g NL qT (qmem g S) r) args s 0 0 (qA g)) (qmem g S) 0 [(0, .ref (qa g o)), (1, .ref (qa g a1)), (2, .int v2)] []
  unfold F2_nextBehind at h
  refine q_sipush (v := (-999)) C dX2_nextBehind_0 (by decide) ?_
  refine q_istore_n C (lv' := [(3, .int (-999)), (0, .ref (qa g o)), (1, .ref (qa g a1)), (2, .int v2)]) dX2_nextBehind_3 rfl (by decide) rfl ?_
  refine q_norm [1, 2, 3, 0] rfl ?_
  refine q_iconst (v := 0) C dX2_nextBehind_4 (by decide) ?_
  refine q_istore C (lv' := [(4, .int 0), (0, .ref (qa g o)), (1, .ref (qa g a1)), (2, .int v2), (3, .int (-999))]) dX2_nextBehind_5 (by decide) rfl ?_
  refine q_norm [1, 2, 3, 4, 0] rfl ?_
  exact W2_nextBehind_7 C hr n o ho a1 ha1 n v2 (-999) 0 S h
/-! ClosedStreets$Route.find -/
abbrev rmX2_find : Room := { frames := 3, cells := 0, slots := 0, locals := 120 }
def B2_find_62 (n : Nat) (o : Nat) (a1 : Nat) : Nat → Int32 → qSt → Option qSt
  | 0, _, _ => none
  | n9 + 1, v2, S => if v2 = (-999) then (some S) else (if 9 ≤ (S o 3) then (some S) else (if qin (S o 3) 9 = true then obs (qup S (o + 2) (S o 3).toNatClampNeg v2) fun S6 => if qin v2 9 = true then obs (qup S6 (o + 3) v2.toNatClampNeg (S6 o 3)) fun S8 => obs (qup S8 o 3 ((S8 o 3) + 1)) fun S9 => ob1 (F2_nextBehind n o a1 v2 S9) fun r11 => (B2_find_62 n o a1 n9) r11 S9 else none else none))
set_option maxRecDepth 100000 in
set_option maxHeartbeats 4000000 in
theorem W2_find_62 {S2 : qSt} (C : qC g cX2_find RX2 3 p s m meth c) (hr : meth.sig.returnType = none) (n : Nat) (o : Nat) (ho : tyR o) (a1 : Nat) (ha1 : tyT a1) : ∀ (n9 : Nat) (v2 : Int32) (S : qSt), B2_find_62 n o a1 n9 v2 S = some S2 → qR g NL qT 3 p l e rmX2_find s m args below meth c 0 0 (MQ below (qQv g NL qT (qmem g S2)) args s 0 0 (qA g)) (qmem g S) 62 [(0, .ref (qa g o)), (1, .ref (qa g a1)), (2, .int v2)] [] := by
  intro n9
  induction n9 with
  | zero =>
    intro v2 S h
    have h9 : (none : Option qSt) = some S2 := h
    cases h9
  | succ n9 ih =>
    intro v2 S h
    rw [B2_find_62] at h
    refine q_iload_n C 2 dX2_find_62 rfl rfl ?_
    refine q_sipush (v := (-999)) C dX2_find_63 (by decide) ?_
    refine q_icmp_eq (tgt := 118) C h dX2_find_66 (by decide) (fun h => ?_) (fun h => ?_)
    · obtain rfl := Option.some.inj h
      exact q_vret C hr (Nat.le_refl 0) (Nat.le_refl 0) dX2_find_118
    · refine q_aload_n C 0 dX2_find_69 rfl rfl ?_
      refine s_geti C lf2_21 ho.l0 ho.k0 dX2_find_70 ?_
      refine q_bipush (v := 9) C dX2_find_73 (by decide) ?_
      refine q_icmp_ge (tgt := 118) C h dX2_find_75 (by decide) (fun h => ?_) (fun h => ?_)
      · obtain rfl := Option.some.inj h
        exact q_vret C hr (Nat.le_refl 0) (Nat.le_refl 0) dX2_find_118
      · refine q_aload_n C 0 dX2_find_78 rfl rfl ?_
        refine s_getr (a := (o + 2)) C lf2_15 ho.l0 ho.k0 rfl dX2_find_79 ?_
        refine q_aload_n C 0 dX2_find_82 rfl rfl ?_
        refine s_geti C lf2_21 ho.l0 ho.k0 dX2_find_83 ?_
        refine q_iload_n C 2 dX2_find_86 rfl rfl ?_
        obtain ⟨hb5, h⟩ := q_if h
        obtain ⟨S6, hS6, h⟩ := obs_e h
        refine s_iast C ho.l2 ho.k2 hb5 dX2_find_87 ?_
        rw [← hS6]
        refine q_aload_n C 0 dX2_find_88 rfl rfl ?_
        refine s_getr (a := (o + 3)) C lf2_18 ho.l0 ho.k0 rfl dX2_find_89 ?_
        refine q_iload_n C 2 dX2_find_92 rfl rfl ?_
        refine q_aload_n C 0 dX2_find_93 rfl rfl ?_
        refine s_geti C lf2_21 ho.l0 ho.k0 dX2_find_94 ?_
        obtain ⟨hb7, h⟩ := q_if h
        obtain ⟨S8, hS8, h⟩ := obs_e h
        refine s_iast C ho.l3 ho.k3 hb7 dX2_find_97 ?_
        rw [← hS8]
        refine q_aload_n C 0 dX2_find_98 rfl rfl ?_
        refine q_dup C dX2_find_99 rfl ?_
        refine s_geti C lf2_21 ho.l0 ho.k0 dX2_find_100 ?_
        refine q_iconst (v := 1) C dX2_find_103 (by decide) ?_
        refine q_iadd C dX2_find_104 ?_
        obtain ⟨S9, hS9, h⟩ := obs_e h
        refine s_puti C lf2_21 ho.l0 ho.k0 dX2_find_105 ?_
        rw [← hS9]
        refine q_aload_n C 0 dX2_find_108 rfl rfl ?_
        refine q_aload_n C 1 dX2_find_109 rfl rfl ?_
        refine q_iload_n C 2 dX2_find_110 rfl rfl ?_
        obtain ⟨r11, hc10, h⟩ := ob1_e h
        refine q_callVi0 C ho.l0 (qmem_o ho.k0 (Nat.le_of_ble_eq_true rfl)) rfl rfl (kX2_nextBehind n o (ho) a1 (ha1) v2 S9 hc10) lm2_62 rfl (rest := []) rfl (Nat.le_of_ble_eq_true rfl) dX2_find_111 ⟨rfl, rfl, Nat.le_of_ble_eq_true rfl, Nat.le_of_ble_eq_true rfl, Nat.le_of_ble_eq_true rfl, Nat.le_of_ble_eq_true rfl⟩ ?_
        refine q_istore_n C (lv' := [(2, .int r11), (0, .ref (qa g o)), (1, .ref (qa g a1))]) dX2_find_114 rfl (by decide) rfl ?_
        refine q_norm [1, 2, 0] rfl ?_
        refine q_goto (tgt := 62) C dX2_find_115 (by decide) ?_
        exact ih r11 S9 h
def B2_find_61 (n : Nat) (o : Nat) (a1 : Nat) (t0 : Int32) (S : qSt) : Option qSt := B2_find_62 n o a1 n t0 S
set_option maxRecDepth 100000 in
set_option maxHeartbeats 4000000 in
theorem W2_find_61 {S2 : qSt} (C : qC g cX2_find RX2 3 p s m meth c) (hr : meth.sig.returnType = none) (n : Nat) (o : Nat) (ho : tyR o) (a1 : Nat) (ha1 : tyT a1) (t0 : Int32) (S : qSt) (h : B2_find_61 n o a1 t0 S = some S2) : qR g NL qT 3 p l e rmX2_find s m args below meth c 0 0 (MQ below (qQv g NL qT (qmem g S2)) args s 0 0 (qA g)) (qmem g S) 61 [(0, .ref (qa g o)), (1, .ref (qa g a1))] [.int t0] := by
  unfold B2_find_61 at h
  refine q_istore_n C (lv' := [(2, .int t0), (0, .ref (qa g o)), (1, .ref (qa g a1))]) dX2_find_61 rfl (by decide) rfl ?_
  refine q_norm [1, 2, 0] rfl ?_
  exact W2_find_62 C hr n o ho a1 ha1 n t0 S h
def B2_find_23 (n : Nat) (o : Nat) (a1 : Nat) (S : qSt) : Option qSt := obs (qup S o 3 0) fun S1 => ob1 (F2_weigh n o a1 (S1 a1 3) S1) fun S3 => if qin (S3 a1 2) 9 = true then if ¬ (S3 (o + 1) (S3 a1 2).toNatClampNeg) = 1000000 then (B2_find_61 n o a1 (S3 a1 2) S3) else (B2_find_61 n o a1 (-999) S3) else none
set_option maxRecDepth 100000 in
set_option maxHeartbeats 4000000 in
theorem W2_find_23 {S2 : qSt} (C : qC g cX2_find RX2 3 p s m meth c) (hr : meth.sig.returnType = none) (n : Nat) (o : Nat) (ho : tyR o) (a1 : Nat) (ha1 : tyT a1) (S : qSt) (h : B2_find_23 n o a1 S = some S2) : qR g NL qT 3 p l e rmX2_find s m args below meth c 0 0 (MQ below (qQv g NL qT (qmem g S2)) args s 0 0 (qA g)) (qmem g S) 23 [(0, .ref (qa g o)), (1, .ref (qa g a1))] [] := by
  unfold B2_find_23 at h
  refine q_aload_n C 0 dX2_find_23 rfl rfl ?_
  refine q_iconst (v := 0) C dX2_find_24 (by decide) ?_
  obtain ⟨S1, hS1, h⟩ := obs_e h
  refine s_puti C lf2_21 ho.l0 ho.k0 dX2_find_25 ?_
  rw [← hS1]
  refine q_aload_n C 0 dX2_find_28 rfl rfl ?_
  refine q_aload_n C 1 dX2_find_29 rfl rfl ?_
  refine q_aload_n C 1 dX2_find_30 rfl rfl ?_
  refine s_geti C lf2_52 ha1.l0 ha1.k0 dX2_find_31 ?_
  obtain ⟨S3, hc2, h⟩ := ob1_e h
  refine q_callVv0 C ho.l0 (qmem_o ho.k0 (Nat.le_of_ble_eq_true rfl)) rfl rfl (kX2_weigh n o (ho) a1 (ha1) (S1 a1 3) S1 hc2) lm2_55 rfl (rest := []) rfl (Nat.le_of_ble_eq_true rfl) dX2_find_34 ⟨rfl, rfl, Nat.le_of_ble_eq_true rfl, Nat.le_of_ble_eq_true rfl, Nat.le_of_ble_eq_true rfl, Nat.le_of_ble_eq_true rfl⟩ ?_
  refine q_aload_n C 0 dX2_find_37 rfl rfl ?_
  refine s_getr (a := (o + 1)) C lf2_9 ho.l0 ho.k0 rfl dX2_find_38 ?_
  refine q_aload_n C 1 dX2_find_41 rfl rfl ?_
  refine s_geti C lf2_59 ha1.l0 ha1.k0 dX2_find_42 ?_
  obtain ⟨hb4, h⟩ := q_if h
  refine s_iald C ho.l1 ho.k1 hb4 dX2_find_45 ?_
  refine q_ldc (v := 1000000) C lc2_25 dX2_find_46 ?_
  refine q_icmp_ne (tgt := 57) C h dX2_find_48 (by decide) (fun h => ?_) (fun h => ?_)
  · refine q_aload_n C 1 dX2_find_57 rfl rfl ?_
    refine s_geti C lf2_59 ha1.l0 ha1.k0 dX2_find_58 ?_
    exact W2_find_61 C hr n o ho a1 ha1 (S3 a1 2) S3 h
  · refine q_sipush (v := (-999)) C dX2_find_51 (by decide) ?_
    refine q_goto (tgt := 61) C dX2_find_54 (by decide) ?_
    exact W2_find_61 C hr n o ho a1 ha1 (-999) S3 h
def B2_find_2 (n : Nat) (o : Nat) (a1 : Nat) : Nat → Int32 → qSt → Option qSt
  | 0, _, _ => none
  | n9 + 1, v2, S => if 9 ≤ v2 then (B2_find_23 n o a1 S) else (if qin v2 9 = true then obs (qup S (o + 3) v2.toNatClampNeg (-999)) fun S13 => (B2_find_2 n o a1 n9) (v2 + 1) S13 else none)
set_option maxRecDepth 100000 in
set_option maxHeartbeats 4000000 in
theorem W2_find_2 {S2 : qSt} (C : qC g cX2_find RX2 3 p s m meth c) (hr : meth.sig.returnType = none) (n : Nat) (o : Nat) (ho : tyR o) (a1 : Nat) (ha1 : tyT a1) : ∀ (n9 : Nat) (v2 : Int32) (S : qSt), B2_find_2 n o a1 n9 v2 S = some S2 → qR g NL qT 3 p l e rmX2_find s m args below meth c 0 0 (MQ below (qQv g NL qT (qmem g S2)) args s 0 0 (qA g)) (qmem g S) 2 [(0, .ref (qa g o)), (1, .ref (qa g a1)), (2, .int v2)] [] := by
  intro n9
  induction n9 with
  | zero =>
    intro v2 S h
    have h9 : (none : Option qSt) = some S2 := h
    cases h9
  | succ n9 ih =>
    intro v2 S h
    rw [B2_find_2] at h
    refine q_iload_n C 2 dX2_find_2 rfl rfl ?_
    refine q_bipush (v := 9) C dX2_find_3 (by decide) ?_
    refine q_icmp_ge (tgt := 23) C h dX2_find_5 (by decide) (fun h => ?_) (fun h => ?_)
    · refine q_norm [0, 1] rfl ?_
      exact W2_find_23 C hr n o ho a1 ha1 S h
    · refine q_aload_n C 0 dX2_find_8 rfl rfl ?_
      refine s_getr (a := (o + 3)) C lf2_18 ho.l0 ho.k0 rfl dX2_find_9 ?_
      refine q_iload_n C 2 dX2_find_12 rfl rfl ?_
      refine q_sipush (v := (-999)) C dX2_find_13 (by decide) ?_
      obtain ⟨hb12, h⟩ := q_if h
      obtain ⟨S13, hS13, h⟩ := obs_e h
      refine s_iast C ho.l3 ho.k3 hb12 dX2_find_16 ?_
      rw [← hS13]
      refine q_iinc C 2 (v := v2 + 1) (lv' := [(2, .int (v2 + 1)), (0, .ref (qa g o)), (1, .ref (qa g a1))]) dX2_find_17 rfl rfl (by decide) rfl ?_
      refine q_norm [1, 2, 0] rfl ?_
      refine q_goto (tgt := 2) C dX2_find_20 (by decide) ?_
      exact ih (v2 + 1) S13 h
def F2_find (n : Nat) (o : Nat) (a1 : Nat) (S : qSt) : Option qSt := B2_find_2 n o a1 n 0 S
set_option maxRecDepth 100000 in
set_option maxHeartbeats 4000000 in
theorem kX2_find {l : Launch} {g : qG} (n : Nat) (o : Nat) (ho : tyR o) (a1 : Nat) (ha1 : tyT a1) (S : qSt) {S2 : qSt} (h : F2_find n o a1 S = some S2) : Met l yX2_find [.code yX2_find cX2_find 3 none] rmX2_find (qPc g NL qT (qmem g S) [.ref (qa g o), .ref (qa g a1)]) (qQv g NL qT (qmem g S2)) 0 0 (qA g) := by
  refine q_met (by decide) (Nat.le_of_ble_eq_true rfl) (fun p e s m args below meth c C hr _ => ?_)
  have C : qC g cX2_find RX2 3 p s m meth c := C
  show qR g NL qT 3 p l e rmX2_find s m args below meth c 0 0 (MQ below (qQv g NL qT (qmem g S2)) args s 0 0 (qA g)) (qmem g S) 0 [(0, .ref (qa g o)), (1, .ref (qa g a1))] []
  unfold F2_find at h
  refine q_iconst (v := 0) C dX2_find_0 (by decide) ?_
  refine q_istore_n C (lv' := [(2, .int 0), (0, .ref (qa g o)), (1, .ref (qa g a1))]) dX2_find_1 rfl (by decide) rfl ?_
  refine q_norm [1, 2, 0] rfl ?_
  exact W2_find_2 C hr n o ho a1 ha1 n 0 S h
/-! ClosedStreets$Route.streets -/
abbrev rmX2_streets : Room := { frames := 0, cells := 0, slots := 0, locals := 0 }
def F2_streets (o : Nat) (S : qSt) : Int32 := if ¬ (S o 3) = 0 then ((S o 3) - 1) else ((-999))
set_option maxRecDepth 100000 in
set_option maxHeartbeats 4000000 in
theorem kX2_streets {l : Launch} {g : qG} (o : Nat) (ho : tyR o) (S : qSt) : Met l yX2_streets [.code yX2_streets cX2_streets 1 (some .int)] rmX2_streets (qPc g NL qT (qmem g S) [.ref (qa g o)]) (qQi g NL qT (qmem g S) (F2_streets o S)) 0 0 (qA g) := by
  obtain ⟨r, h⟩ : ∃ r, F2_streets o S = r := ⟨_, rfl⟩
  rw [h]
  refine q_met (by decide) (Nat.le_of_ble_eq_true rfl) (fun p e s m args below meth c C hr _ => ?_)
  have C : qC g cX2_streets RX2 1 p s m meth c := C
  show qR g NL qT 1 p l e rmX2_streets s m args below meth c 0 0 (MQ below (qQi g NL qT (qmem g S) r) args s 0 0 (qA g)) (qmem g S) 0 [(0, .ref (qa g o))] []
  unfold F2_streets at h
  refine q_aload_n C 0 dX2_streets_0 rfl rfl ?_
  refine s_geti C lf2_21 ho.l0 ho.k0 dX2_streets_1 ?_
  refine q_if_ne (tgt := 13) C h dX2_streets_4 (by decide) (fun h => ?_) (fun h => ?_)
  · refine q_aload_n C 0 dX2_streets_13 rfl rfl ?_
    refine s_geti C lf2_21 ho.l0 ho.k0 dX2_streets_14 ?_
    refine q_iconst (v := 1) C dX2_streets_17 (by decide) ?_
    refine q_isub C dX2_streets_18 ?_
    subst h
    exact q_iret C hr (Nat.le_refl 0) (Nat.le_refl 0) dX2_streets_19
  · refine q_sipush (v := (-999)) C dX2_streets_7 (by decide) ?_
    refine q_goto (tgt := 19) C dX2_streets_10 (by decide) ?_
    subst h
    exact q_iret C hr (Nat.le_refl 0) (Nat.le_refl 0) dX2_streets_19
/-! ClosedStreets$Route.placeOf -/
abbrev rmX2_placeOf : Room := { frames := 0, cells := 0, slots := 0, locals := 0 }
def F2_placeOf (o : Nat) (v1 : Int32) (S : qSt) : Option Int32 := if v1 < 0 then (some (-999)) else (if 9 ≤ v1 then (some (-999)) else (if qin v1 9 = true then some (S (o + 3) v1.toNatClampNeg) else none))
set_option maxRecDepth 100000 in
set_option maxHeartbeats 4000000 in
theorem kX2_placeOf {l : Launch} {g : qG} (o : Nat) (ho : tyR o) (v1 : Int32) (S : qSt) {r : Int32} (h : F2_placeOf o v1 S = some r) : Met l yX2_placeOf [.code yX2_placeOf cX2_placeOf 2 (some .int)] rmX2_placeOf (qPc g NL qT (qmem g S) [.ref (qa g o), .int v1]) (qQi g NL qT (qmem g S) r) 0 0 (qA g) := by
  refine q_met (by decide) (Nat.le_of_ble_eq_true rfl) (fun p e s m args below meth c C hr _ => ?_)
  have C : qC g cX2_placeOf RX2 2 p s m meth c := C
  show qR g NL qT 2 p l e rmX2_placeOf s m args below meth c 0 0 (MQ below (qQi g NL qT (qmem g S) r) args s 0 0 (qA g)) (qmem g S) 0 [(0, .ref (qa g o)), (1, .int v1)] []
  unfold F2_placeOf at h
  refine q_iload_n C 1 dX2_placeOf_0 rfl rfl ?_
  refine q_if_lt (tgt := 19) C h dX2_placeOf_1 (by decide) (fun h => ?_) (fun h => ?_)
  · refine q_sipush (v := (-999)) C dX2_placeOf_19 (by decide) ?_
    obtain rfl := Option.some.inj h
    exact q_iret C hr (Nat.le_refl 0) (Nat.le_refl 0) dX2_placeOf_22
  · refine q_iload_n C 1 dX2_placeOf_4 rfl rfl ?_
    refine q_bipush (v := 9) C dX2_placeOf_5 (by decide) ?_
    refine q_icmp_ge (tgt := 19) C h dX2_placeOf_7 (by decide) (fun h => ?_) (fun h => ?_)
    · refine q_sipush (v := (-999)) C dX2_placeOf_19 (by decide) ?_
      obtain rfl := Option.some.inj h
      exact q_iret C hr (Nat.le_refl 0) (Nat.le_refl 0) dX2_placeOf_22
    · refine q_aload_n C 0 dX2_placeOf_10 rfl rfl ?_
      refine s_getr (a := (o + 3)) C lf2_18 ho.l0 ho.k0 rfl dX2_placeOf_11 ?_
      refine q_iload_n C 1 dX2_placeOf_14 rfl rfl ?_
      obtain ⟨hb1, h⟩ := q_if h
      refine s_iald C ho.l3 ho.k3 hb1 dX2_placeOf_15 ?_
      refine q_goto (tgt := 22) C dX2_placeOf_16 (by decide) ?_
      obtain rfl := Option.some.inj h
      exact q_iret C hr (Nat.le_refl 0) (Nat.le_refl 0) dX2_placeOf_22
/-! ClosedStreets$Route.uses -/
abbrev rmX2_uses : Room := { frames := 1, cells := 0, slots := 0, locals := 40 }
def B2_uses_54 (o : Nat) (a1 : Nat) (S : qSt) : Option Int32 := some 1
set_option maxRecDepth 100000 in
set_option maxHeartbeats 4000000 in
theorem W2_uses_54 {r : Int32} (C : qC g cX2_uses RX2 5 p s m meth c) (hr : meth.sig.returnType = (some .boolean)) (o : Nat) (ho : tyR o) (a1 : Nat) (ha1 : tyT a1) (S : qSt) (h : B2_uses_54 o a1 S = some r) : qR g NL qT 5 p l e rmX2_uses s m args below meth c 0 0 (MQ below (qQi g NL qT (qmem g S) r) args s 0 0 (qA g)) (qmem g S) 54 [] [] := by
  unfold B2_uses_54 at h
  refine q_iconst (v := 1) C dX2_uses_54 (by decide) ?_
  refine q_goto (tgt := 59) C dX2_uses_55 (by decide) ?_
  obtain rfl := Option.some.inj h
  exact q_zret C hr (by decide) (Nat.le_refl 0) (Nat.le_refl 0) dX2_uses_59
def F2_uses (o : Nat) (a1 : Nat) (v2 : Int32) (S : qSt) : Option Int32 := if qin v2 21 = true then ob1 (F2_placeOf o (S (a1 + 1) v2.toNatClampNeg) S) fun r3 => ob1 (F2_placeOf o (S (a1 + 2) v2.toNatClampNeg) S) fun r5 => if r3 = (-999) then (some 0) else (if r5 = (-999) then (some 0) else (if (r3 - r5) = 1 then (B2_uses_54 o a1 S) else (if ¬ (r5 - r3) = 1 then (some 0) else (B2_uses_54 o a1 S)))) else none
set_option maxRecDepth 100000 in
set_option maxHeartbeats 4000000 in
theorem kX2_uses {l : Launch} {g : qG} (o : Nat) (ho : tyR o) (a1 : Nat) (ha1 : tyT a1) (v2 : Int32) (S : qSt) {r : Int32} (h : F2_uses o a1 v2 S = some r) : Met l yX2_uses [.code yX2_uses cX2_uses 5 (some .boolean)] rmX2_uses (qPc g NL qT (qmem g S) [.ref (qa g o), .ref (qa g a1), .int v2]) (qQi g NL qT (qmem g S) r) 0 0 (qA g) := by
  refine q_met (by decide) (Nat.le_of_ble_eq_true rfl) (fun p e s m args below meth c C hr _ => ?_)
  have C : qC g cX2_uses RX2 5 p s m meth c := C
  show qR g NL qT 5 p l e rmX2_uses s m args below meth c 0 0 (MQ below (qQi g NL qT (qmem g S) r) args s 0 0 (qA g)) (qmem g S) 0 [(0, .ref (qa g o)), (1, .ref (qa g a1)), (2, .int v2)] []
  unfold F2_uses at h
  refine q_aload_n C 0 dX2_uses_0 rfl rfl ?_
  refine q_aload_n C 1 dX2_uses_1 rfl rfl ?_
  refine s_getr (a := (a1 + 1)) C lf2_39 ha1.l0 ha1.k0 rfl dX2_uses_2 ?_
  refine q_iload_n C 2 dX2_uses_5 rfl rfl ?_
  obtain ⟨hb1, h⟩ := q_if h
  refine s_iald C ha1.l1 ha1.k1 hb1 dX2_uses_6 ?_
  obtain ⟨r3, hc2, h⟩ := ob1_e h
  refine q_callVi0 C ho.l0 (qmem_o ho.k0 (Nat.le_of_ble_eq_true rfl)) rfl rfl (kX2_placeOf o (ho) (S (a1 + 1) v2.toNatClampNeg) S hc2) lm2_81 rfl (rest := []) rfl (Nat.le_of_ble_eq_true rfl) dX2_uses_7 ⟨rfl, rfl, Nat.le_of_ble_eq_true rfl, Nat.le_of_ble_eq_true rfl, Nat.le_of_ble_eq_true rfl, Nat.le_of_ble_eq_true rfl⟩ ?_
  refine q_istore_n C (lv' := [(3, .int r3), (0, .ref (qa g o)), (1, .ref (qa g a1)), (2, .int v2)]) dX2_uses_10 rfl (by decide) rfl ?_
  refine q_norm [1, 2, 3, 0] rfl ?_
  refine q_aload_n C 0 dX2_uses_11 rfl rfl ?_
  refine q_aload_n C 1 dX2_uses_12 rfl rfl ?_
  refine s_getr (a := (a1 + 2)) C lf2_42 ha1.l0 ha1.k0 rfl dX2_uses_13 ?_
  refine q_iload_n C 2 dX2_uses_16 rfl rfl ?_
  refine s_iald C ha1.l2 ha1.k2 hb1 dX2_uses_17 ?_
  obtain ⟨r5, hc4, h⟩ := ob1_e h
  refine q_callVi0 C ho.l0 (qmem_o ho.k0 (Nat.le_of_ble_eq_true rfl)) rfl rfl (kX2_placeOf o (ho) (S (a1 + 2) v2.toNatClampNeg) S hc4) lm2_81 rfl (rest := []) rfl (Nat.le_of_ble_eq_true rfl) dX2_uses_18 ⟨rfl, rfl, Nat.le_of_ble_eq_true rfl, Nat.le_of_ble_eq_true rfl, Nat.le_of_ble_eq_true rfl, Nat.le_of_ble_eq_true rfl⟩ ?_
  refine q_istore C (lv' := [(4, .int r5), (0, .ref (qa g o)), (1, .ref (qa g a1)), (2, .int v2), (3, .int r3)]) dX2_uses_21 (by decide) rfl ?_
  refine q_norm [1, 2, 3, 4, 0] rfl ?_
  refine q_iload_n C 3 dX2_uses_23 rfl rfl ?_
  refine q_sipush (v := (-999)) C dX2_uses_24 (by decide) ?_
  refine q_icmp_eq (tgt := 58) C h dX2_uses_27 (by decide) (fun h => ?_) (fun h => ?_)
  · refine q_iconst (v := 0) C dX2_uses_58 (by decide) ?_
    obtain rfl := Option.some.inj h
    exact q_zret C hr (by decide) (Nat.le_refl 0) (Nat.le_refl 0) dX2_uses_59
  · refine q_iload C 4 dX2_uses_30 rfl ?_
    refine q_sipush (v := (-999)) C dX2_uses_32 (by decide) ?_
    refine q_icmp_eq (tgt := 58) C h dX2_uses_35 (by decide) (fun h => ?_) (fun h => ?_)
    · refine q_iconst (v := 0) C dX2_uses_58 (by decide) ?_
      obtain rfl := Option.some.inj h
      exact q_zret C hr (by decide) (Nat.le_refl 0) (Nat.le_refl 0) dX2_uses_59
    · refine q_iload_n C 3 dX2_uses_38 rfl rfl ?_
      refine q_iload C 4 dX2_uses_39 rfl ?_
      refine q_isub C dX2_uses_41 ?_
      refine q_iconst (v := 1) C dX2_uses_42 (by decide) ?_
      refine q_icmp_eq (tgt := 54) C h dX2_uses_43 (by decide) (fun h => ?_) (fun h => ?_)
      · refine q_norm [] rfl ?_
        exact W2_uses_54 C hr o ho a1 ha1 S h
      · refine q_iload C 4 dX2_uses_46 rfl ?_
        refine q_iload_n C 3 dX2_uses_48 rfl rfl ?_
        refine q_isub C dX2_uses_49 ?_
        refine q_iconst (v := 1) C dX2_uses_50 (by decide) ?_
        refine q_icmp_ne (tgt := 58) C h dX2_uses_51 (by decide) (fun h => ?_) (fun h => ?_)
        · refine q_iconst (v := 0) C dX2_uses_58 (by decide) ?_
          obtain rfl := Option.some.inj h
          exact q_zret C hr (by decide) (Nat.le_refl 0) (Nat.le_refl 0) dX2_uses_59
        · refine q_norm [] rfl ?_
          exact W2_uses_54 C hr o ho a1 ha1 S h
/-! ClosedStreets$Route.crossingAt -/
abbrev rmX2_crossingAt : Room := { frames := 0, cells := 0, slots := 0, locals := 0 }
def F2_crossingAt (o : Nat) (v1 : Int32) (S : qSt) : Option Int32 := if v1 < 0 then (some (-999)) else (if (S o 3) ≤ v1 then (some (-999)) else (if qin v1 9 = true then some (S (o + 2) v1.toNatClampNeg) else none))
set_option maxRecDepth 100000 in
set_option maxHeartbeats 4000000 in
theorem kX2_crossingAt {l : Launch} {g : qG} (o : Nat) (ho : tyR o) (v1 : Int32) (S : qSt) {r : Int32} (h : F2_crossingAt o v1 S = some r) : Met l yX2_crossingAt [.code yX2_crossingAt cX2_crossingAt 2 (some .int)] rmX2_crossingAt (qPc g NL qT (qmem g S) [.ref (qa g o), .int v1]) (qQi g NL qT (qmem g S) r) 0 0 (qA g) := by
  refine q_met (by decide) (Nat.le_of_ble_eq_true rfl) (fun p e s m args below meth c C hr _ => ?_)
  have C : qC g cX2_crossingAt RX2 2 p s m meth c := C
  show qR g NL qT 2 p l e rmX2_crossingAt s m args below meth c 0 0 (MQ below (qQi g NL qT (qmem g S) r) args s 0 0 (qA g)) (qmem g S) 0 [(0, .ref (qa g o)), (1, .int v1)] []
  unfold F2_crossingAt at h
  refine q_iload_n C 1 dX2_crossingAt_0 rfl rfl ?_
  refine q_if_lt (tgt := 21) C h dX2_crossingAt_1 (by decide) (fun h => ?_) (fun h => ?_)
  · refine q_sipush (v := (-999)) C dX2_crossingAt_21 (by decide) ?_
    obtain rfl := Option.some.inj h
    exact q_iret C hr (Nat.le_refl 0) (Nat.le_refl 0) dX2_crossingAt_24
  · refine q_iload_n C 1 dX2_crossingAt_4 rfl rfl ?_
    refine q_aload_n C 0 dX2_crossingAt_5 rfl rfl ?_
    refine s_geti C lf2_21 ho.l0 ho.k0 dX2_crossingAt_6 ?_
    refine q_icmp_ge (tgt := 21) C h dX2_crossingAt_9 (by decide) (fun h => ?_) (fun h => ?_)
    · refine q_sipush (v := (-999)) C dX2_crossingAt_21 (by decide) ?_
      obtain rfl := Option.some.inj h
      exact q_iret C hr (Nat.le_refl 0) (Nat.le_refl 0) dX2_crossingAt_24
    · refine q_aload_n C 0 dX2_crossingAt_12 rfl rfl ?_
      refine s_getr (a := (o + 2)) C lf2_15 ho.l0 ho.k0 rfl dX2_crossingAt_13 ?_
      refine q_iload_n C 1 dX2_crossingAt_16 rfl rfl ?_
      obtain ⟨hb1, h⟩ := q_if h
      refine s_iald C ho.l2 ho.k2 hb1 dX2_crossingAt_17 ?_
      refine q_goto (tgt := 24) C dX2_crossingAt_18 (by decide) ?_
      obtain rfl := Option.some.inj h
      exact q_iret C hr (Nat.le_refl 0) (Nat.le_refl 0) dX2_crossingAt_24
/-! ClosedStreets$Route.farthest -/
abbrev rmX2_farthest : Room := { frames := 1, cells := 0, slots := 0, locals := 40 }
def B2_farthest_4 (n : Nat) (o : Nat) (a1 : Nat) : Nat → Int32 → Int32 → qSt → Option Int32
  | 0, _, _, _ => none
  | n9 + 1, v2, v3, S => if (S a1 0) ≤ v3 then (some v2) else (ob1 (F2_lengthFrom o v3 S) fun r2 => if ¬ r2 = (-999) then ((B2_farthest_4 n o a1 n9) (if v2 < r2 then r2 else v2) (v3 + 1) S) else (some (-999)))
set_option maxRecDepth 100000 in
set_option maxHeartbeats 4000000 in
theorem W2_farthest_4 {r : Int32} (C : qC g cX2_farthest RX2 5 p s m meth c) (hr : meth.sig.returnType = (some .int)) (n : Nat) (o : Nat) (ho : tyR o) (a1 : Nat) (ha1 : tyT a1) : ∀ (n9 : Nat) (v2 : Int32) (v3 : Int32) (S : qSt), B2_farthest_4 n o a1 n9 v2 v3 S = some r → qR g NL qT 5 p l e rmX2_farthest s m args below meth c 0 0 (MQ below (qQi g NL qT (qmem g S) r) args s 0 0 (qA g)) (qmem g S) 4 [(0, .ref (qa g o)), (1, .ref (qa g a1)), (2, .int v2), (3, .int v3)] [] := by
  intro n9
  induction n9 with
  | zero =>
    intro v2 v3 S h
    have h9 : (none : Option Int32) = some r := h
    cases h9
  | succ n9 ih =>
    intro v2 v3 S h
    rw [B2_farthest_4] at h
    refine q_iload_n C 3 dX2_farthest_4 rfl rfl ?_
    refine q_aload_n C 1 dX2_farthest_5 rfl rfl ?_
    refine s_geti C lf2_69 ha1.l0 ha1.k0 dX2_farthest_6 ?_
    refine q_icmp_ge (tgt := 44) C h dX2_farthest_9 (by decide) (fun h => ?_) (fun h => ?_)
    · refine q_iload_n C 2 dX2_farthest_44 rfl rfl ?_
      obtain rfl := Option.some.inj h
      exact q_iret C hr (Nat.le_refl 0) (Nat.le_refl 0) dX2_farthest_45
    · refine q_aload_n C 0 dX2_farthest_12 rfl rfl ?_
      refine q_iload_n C 3 dX2_farthest_13 rfl rfl ?_
      obtain ⟨r2, hc1, h⟩ := ob1_e h
      refine q_callVi0 C ho.l0 (qmem_o ho.k0 (Nat.le_of_ble_eq_true rfl)) rfl rfl (kX2_lengthFrom o (ho) v3 S hc1) lm2_72 rfl (rest := []) rfl (Nat.le_of_ble_eq_true rfl) dX2_farthest_14 ⟨rfl, rfl, Nat.le_of_ble_eq_true rfl, Nat.le_of_ble_eq_true rfl, Nat.le_of_ble_eq_true rfl, Nat.le_of_ble_eq_true rfl⟩ ?_
      refine q_istore C (lv' := [(4, .int r2), (0, .ref (qa g o)), (1, .ref (qa g a1)), (2, .int v2), (3, .int v3)]) dX2_farthest_17 (by decide) rfl ?_
      refine q_norm [1, 2, 3, 4, 0] rfl ?_
      refine q_iload C 4 dX2_farthest_19 rfl ?_
      refine q_sipush (v := (-999)) C dX2_farthest_21 (by decide) ?_
      refine q_icmp_ne (tgt := 31) C h dX2_farthest_24 (by decide) (fun h => ?_) (fun h => ?_)
      · refine q_iload_n C 2 dX2_farthest_31 rfl rfl ?_
        refine q_iload C 4 dX2_farthest_32 rfl ?_
        refine q_mmax C lx2_76 ⟨Nat.le_of_ble_eq_true rfl, Nat.le_of_ble_eq_true rfl, Nat.le_of_ble_eq_true rfl, Nat.le_of_ble_eq_true rfl⟩ dX2_farthest_34 ?_
        refine q_istore_n C (lv' := [(2, .int (if v2 < r2 then r2 else v2)), (0, .ref (qa g o)), (1, .ref (qa g a1)), (3, .int v3), (4, .int r2)]) dX2_farthest_37 rfl (by decide) rfl ?_
        refine q_norm [1, 2, 0, 3, 4] rfl ?_
        refine q_iinc C 3 (v := v3 + 1) (lv' := [(3, .int (v3 + 1)), (0, .ref (qa g o)), (1, .ref (qa g a1)), (2, .int (if v2 < r2 then r2 else v2)), (4, .int r2)]) dX2_farthest_38 rfl rfl (by decide) rfl ?_
        refine q_norm [1, 2, 3, 0, 4] rfl ?_
        refine q_goto (tgt := 4) C dX2_farthest_41 (by decide) ?_
        refine q_norm [0, 1, 2, 3] rfl ?_
        exact ih (if v2 < r2 then r2 else v2) (v3 + 1) S h
      · refine q_sipush (v := (-999)) C dX2_farthest_27 (by decide) ?_
        obtain rfl := Option.some.inj h
        exact q_iret C hr (Nat.le_refl 0) (Nat.le_refl 0) dX2_farthest_30
def F2_farthest (n : Nat) (o : Nat) (a1 : Nat) (S : qSt) : Option Int32 := B2_farthest_4 n o a1 n 0 0 S
set_option maxRecDepth 100000 in
set_option maxHeartbeats 4000000 in
theorem kX2_farthest {l : Launch} {g : qG} (n : Nat) (o : Nat) (ho : tyR o) (a1 : Nat) (ha1 : tyT a1) (S : qSt) {r : Int32} (h : F2_farthest n o a1 S = some r) : Met l yX2_farthest [.code yX2_farthest cX2_farthest 5 (some .int)] rmX2_farthest (qPc g NL qT (qmem g S) [.ref (qa g o), .ref (qa g a1)]) (qQi g NL qT (qmem g S) r) 0 0 (qA g) := by
  refine q_met (by decide) (Nat.le_of_ble_eq_true rfl) (fun p e s m args below meth c C hr _ => ?_)
  have C : qC g cX2_farthest RX2 5 p s m meth c := C
  show qR g NL qT 5 p l e rmX2_farthest s m args below meth c 0 0 (MQ below (qQi g NL qT (qmem g S) r) args s 0 0 (qA g)) (qmem g S) 0 [(0, .ref (qa g o)), (1, .ref (qa g a1))] []
  unfold F2_farthest at h
  refine q_iconst (v := 0) C dX2_farthest_0 (by decide) ?_
  refine q_istore_n C (lv' := [(2, .int 0), (0, .ref (qa g o)), (1, .ref (qa g a1))]) dX2_farthest_1 rfl (by decide) rfl ?_
  refine q_norm [1, 2, 0] rfl ?_
  refine q_iconst (v := 0) C dX2_farthest_2 (by decide) ?_
  refine q_istore_n C (lv' := [(3, .int 0), (0, .ref (qa g o)), (1, .ref (qa g a1)), (2, .int 0)]) dX2_farthest_3 rfl (by decide) rfl ?_
  refine q_norm [1, 2, 3, 0] rfl ?_
  exact W2_farthest_4 C hr n o ho a1 ha1 n 0 0 S h
end
