section
variable {l : Launch} {g : qG} {p : Program} {e : Env} {s : State} {m : MethodId} {args : Array Value} {below : List Frame} {meth : Method} {c : Code}
/-! ClosedStreets.clearText -/
abbrev rmX7_clearText : Room := { frames := 0, cells := 0, slots := 0, locals := 0 }
def F7_clearText (S : qSt) : Option (Int32 × qSt) := obs (qup S 1 1 0) fun S1 => some (S 1 1, S1)
set_option maxRecDepth 100000 in
set_option maxHeartbeats 4000000 in
theorem kX7_clearText {l : Launch} {g : qG} (S : qSt) {r : Int32} {S2 : qSt} (h : F7_clearText S = some (r, S2)) : Met l yX7_clearText [.code yX7_clearText cX7_clearText 2 (some .int)] rmX7_clearText (qPc g NL qT (qmem g S) [.ref (qa g 0)]) (qQi g NL qT (qmem g S2) r) 0 0 (qA g) := by
  refine q_met (by decide) (Nat.le_of_ble_eq_true rfl) (fun p e s m args below meth c C hr _ => ?_)
  have C : qC g cX7_clearText RX7 2 p s m meth c := C
  show qR g NL qT 2 p l e rmX7_clearText s m args below meth c 0 0 (MQ below (qQi g NL qT (qmem g S2) r) args s 0 0 (qA g)) (qmem g S) 0 [(0, .ref (qa g 0))] []
  unfold F7_clearText at h
  refine q_aload_n C 0 dX7_clearText_0 rfl rfl ?_
  refine s_getr (a := 1) C lf7_10 ltp_0 kd_0 rfl dX7_clearText_1 ?_
  refine s_geti C lf7_71 ltp_1 kd_1 dX7_clearText_4 ?_
  refine q_istore_n C (lv' := [(1, .int (S 1 1)), (0, .ref (qa g 0))]) dX7_clearText_7 rfl (by decide) rfl ?_
  refine q_norm [1, 0] rfl ?_
  refine q_aload_n C 0 dX7_clearText_8 rfl rfl ?_
  refine s_getr (a := 1) C lf7_10 ltp_0 kd_0 rfl dX7_clearText_9 ?_
  refine q_iconst (v := 0) C dX7_clearText_12 (by decide) ?_
  obtain ⟨S1, hS1, h⟩ := obs_e h
  refine s_puti C lf7_71 ltp_1 kd_1 dX7_clearText_13 ?_
  rw [← hS1]
  refine q_iload_n C 1 dX7_clearText_16 rfl rfl ?_
  obtain ⟨rfl, rfl⟩ := Prod.mk.inj (Option.some.inj h)
  exact q_iret C hr (Nat.le_refl 0) (Nat.le_refl 0) dX7_clearText_17
/-! ClosedStreets.bestLengthIn -/
abbrev rmX7_bestLengthIn : Room := { frames := 3, cells := 0, slots := 0, locals := 120 }
def F7_bestLengthIn (n : Nat) (a1 : Nat) (S : qSt) : Option (Int32 × qSt) := ob1 (F2_weigh n 107 a1 (S a1 3) S) fun S2 => ob1 (F2_lengthFrom 107 (S2 a1 2) S2) fun r4 => some (r4, S2)
set_option maxRecDepth 100000 in
set_option maxHeartbeats 4000000 in
theorem kX7_bestLengthIn {l : Launch} {g : qG} (n : Nat) (a1 : Nat) (ha1 : tyT a1) (S : qSt) {r : Int32} {S2 : qSt} (h : F7_bestLengthIn n a1 S = some (r, S2)) : Met l yX7_bestLengthIn [.code yX7_bestLengthIn cX7_bestLengthIn 2 (some .int)] rmX7_bestLengthIn (qPc g NL qT (qmem g S) [.ref (qa g 0), .ref (qa g a1)]) (qQi g NL qT (qmem g S2) r) 0 0 (qA g) := by
  refine q_met (by decide) (Nat.le_of_ble_eq_true rfl) (fun p e s m args below meth c C hr _ => ?_)
  have C : qC g cX7_bestLengthIn RX7 2 p s m meth c := C
  show qR g NL qT 2 p l e rmX7_bestLengthIn s m args below meth c 0 0 (MQ below (qQi g NL qT (qmem g S2) r) args s 0 0 (qA g)) (qmem g S) 0 [(0, .ref (qa g 0)), (1, .ref (qa g a1))] []
  unfold F7_bestLengthIn at h
  refine q_aload_n C 0 dX7_bestLengthIn_0 rfl rfl ?_
  refine s_getr (a := 107) C lf7_61 ltp_0 kd_0 rfl dX7_bestLengthIn_1 ?_
  refine q_aload_n C 1 dX7_bestLengthIn_4 rfl rfl ?_
  refine q_aload_n C 1 dX7_bestLengthIn_5 rfl rfl ?_
  refine s_geti C lf7_116 ha1.l0 ha1.k0 dX7_bestLengthIn_6 ?_
  obtain ⟨S2, hc1, h⟩ := ob1_e h
  refine q_callVv0 C ltp_107 (qmem_o kd_107 (Nat.le_of_ble_eq_true rfl)) rfl rfl (kX2_weigh n 107 (tyR_107) a1 (ha1) (S a1 3) S hc1) lm7_163 rfl (rest := []) rfl (Nat.le_of_ble_eq_true rfl) dX7_bestLengthIn_9 ⟨rfl, rfl, Nat.le_of_ble_eq_true rfl, Nat.le_of_ble_eq_true rfl, Nat.le_of_ble_eq_true rfl, Nat.le_of_ble_eq_true rfl⟩ ?_
  refine q_aload_n C 0 dX7_bestLengthIn_12 rfl rfl ?_
  refine s_getr (a := 107) C lf7_61 ltp_0 kd_0 rfl dX7_bestLengthIn_13 ?_
  refine q_aload_n C 1 dX7_bestLengthIn_16 rfl rfl ?_
  refine s_geti C lf7_113 ha1.l0 ha1.k0 dX7_bestLengthIn_17 ?_
  obtain ⟨r4, hc3, h⟩ := ob1_e h
  refine q_callVi0 C ltp_107 (qmem_o kd_107 (Nat.le_of_ble_eq_true rfl)) rfl rfl (kX2_lengthFrom 107 (tyR_107) (S2 a1 2) S2 hc3) lm7_167 rfl (rest := []) rfl (Nat.le_of_ble_eq_true rfl) dX7_bestLengthIn_20 ⟨rfl, rfl, Nat.le_of_ble_eq_true rfl, Nat.le_of_ble_eq_true rfl, Nat.le_of_ble_eq_true rfl, Nat.le_of_ble_eq_true rfl⟩ ?_
  obtain ⟨rfl, rfl⟩ := Prod.mk.inj (Option.some.inj h)
  exact q_iret C hr (Nat.le_refl 0) (Nat.le_refl 0) dX7_bestLengthIn_23
/-! ClosedStreets.lengthWithout -/
abbrev rmX7_lengthWithout : Room := { frames := 4, cells := 0, slots := 0, locals := 160 }
def F7_lengthWithout (n : Nat) (v1 : Int32) (S : qSt) : Option (Int32 × qSt) := ob1 (F5_copyFrom n 13 8 S) fun S2 => ob2 (F5_shut 13 v1 1 S2) fun r4 S5 => ob2 (F7_bestLengthIn n 13 S5) fun r7 S8 => some (r7, S8)
set_option maxRecDepth 100000 in
set_option maxHeartbeats 4000000 in
theorem kX7_lengthWithout {l : Launch} {g : qG} (n : Nat) (v1 : Int32) (S : qSt) {r : Int32} {S2 : qSt} (h : F7_lengthWithout n v1 S = some (r, S2)) : Met l yX7_lengthWithout [.code yX7_lengthWithout cX7_lengthWithout 2 (some .int)] rmX7_lengthWithout (qPc g NL qT (qmem g S) [.ref (qa g 0), .int v1]) (qQi g NL qT (qmem g S2) r) 0 0 (qA g) := by
  refine q_met (by decide) (Nat.le_of_ble_eq_true rfl) (fun p e s m args below meth c C hr _ => ?_)
  have C : qC g cX7_lengthWithout RX7 2 p s m meth c := C
  show qR g NL qT 2 p l e rmX7_lengthWithout s m args below meth c 0 0 (MQ below (qQi g NL qT (qmem g S2) r) args s 0 0 (qA g)) (qmem g S) 0 [(0, .ref (qa g 0)), (1, .int v1)] []
  unfold F7_lengthWithout at h
  refine q_aload_n C 0 dX7_lengthWithout_0 rfl rfl ?_
  refine s_getr (a := 13) C lf7_37 ltp_0 kd_0 rfl dX7_lengthWithout_1 ?_
  refine q_aload_n C 0 dX7_lengthWithout_4 rfl rfl ?_
  refine s_getr (a := 8) C lf7_33 ltp_0 kd_0 rfl dX7_lengthWithout_5 ?_
  obtain ⟨S2, hc1, h⟩ := ob1_e h
  refine q_callVv0 C ltp_13 (qmem_o kd_13 (Nat.le_of_ble_eq_true rfl)) rfl rfl (kX5_copyFrom n 13 (tyT_13) 8 (tyT_8) S hc1) lm7_93 rfl (rest := []) rfl (Nat.le_of_ble_eq_true rfl) dX7_lengthWithout_8 ⟨rfl, rfl, Nat.le_of_ble_eq_true rfl, Nat.le_of_ble_eq_true rfl, Nat.le_of_ble_eq_true rfl, Nat.le_of_ble_eq_true rfl⟩ ?_
  refine q_aload_n C 0 dX7_lengthWithout_11 rfl rfl ?_
  refine s_getr (a := 13) C lf7_37 ltp_0 kd_0 rfl dX7_lengthWithout_12 ?_
  refine q_iload_n C 1 dX7_lengthWithout_15 rfl rfl ?_
  refine q_iconst (v := 1) C dX7_lengthWithout_16 (by decide) ?_
  obtain ⟨r4, S5, hc3, h⟩ := ob2_e h
  refine q_callVi0 C ltp_13 (qmem_o kd_13 (Nat.le_of_ble_eq_true rfl)) rfl rfl (kX5_shut 13 (tyT_13) v1 1 S2 hc3) lm7_207 rfl (rest := []) rfl (Nat.le_of_ble_eq_true rfl) dX7_lengthWithout_17 ⟨rfl, rfl, Nat.le_of_ble_eq_true rfl, Nat.le_of_ble_eq_true rfl, Nat.le_of_ble_eq_true rfl, Nat.le_of_ble_eq_true rfl⟩ ?_
  refine q_pop C dX7_lengthWithout_20 rfl ?_
  refine q_aload_n C 0 dX7_lengthWithout_21 rfl rfl ?_
  refine q_aload_n C 0 dX7_lengthWithout_22 rfl rfl ?_
  refine s_getr (a := 13) C lf7_37 ltp_0 kd_0 rfl dX7_lengthWithout_23 ?_
  obtain ⟨r7, S8, hc6, h⟩ := ob2_e h
  refine q_callVi0 C ltp_0 (qmem_o kd_0 (Nat.le_of_ble_eq_true rfl)) rfl rfl (kX7_bestLengthIn n 13 (tyT_13) S5 hc6) lm7_119 rfl (rest := []) rfl (Nat.le_of_ble_eq_true rfl) dX7_lengthWithout_26 ⟨rfl, rfl, Nat.le_of_ble_eq_true rfl, Nat.le_of_ble_eq_true rfl, Nat.le_of_ble_eq_true rfl, Nat.le_of_ble_eq_true rfl⟩ ?_
  obtain ⟨rfl, rfl⟩ := Prod.mk.inj (Option.some.inj h)
  exact q_iret C hr (Nat.le_refl 0) (Nat.le_refl 0) dX7_lengthWithout_29
/-! ClosedStreets.neededStreets -/
abbrev rmX7_neededStreets : Room := { frames := 5, cells := 0, slots := 0, locals := 200 }
def B7_neededStreets_55 (n : Nat) (K15 : Int32 → Int32 → qSt → Option (Int32 × qSt)) (v1 : Int32) (v2 : Int32) (S : qSt) : Option (Int32 × qSt) := K15 v1 (v2 + 1) S
set_option maxRecDepth 100000 in
set_option maxHeartbeats 4000000 in
theorem W7_neededStreets_55 {r : Int32} {S2 : qSt} (C : qC g cX7_neededStreets RX7 3 p s m meth c) (hr : meth.sig.returnType = (some .int)) (n : Nat) (K15 : Int32 → Int32 → qSt → Option (Int32 × qSt)) (hK15 : ∀ (v1 : Int32) (v2 : Int32) (S : qSt), K15 v1 v2 S = some (r, S2) → qR g NL qT 3 p l e rmX7_neededStreets s m args below meth c 0 0 (MQ below (qQi g NL qT (qmem g S2) r) args s 0 0 (qA g)) (qmem g S) 15 [(0, .ref (qa g 0)), (1, .int v1), (2, .int v2)] []) (v1 : Int32) (v2 : Int32) (S : qSt) (h : B7_neededStreets_55 n K15 v1 v2 S = some (r, S2)) : qR g NL qT 3 p l e rmX7_neededStreets s m args below meth c 0 0 (MQ below (qQi g NL qT (qmem g S2) r) args s 0 0 (qA g)) (qmem g S) 55 [(0, .ref (qa g 0)), (1, .int v1), (2, .int v2)] [] := by
  unfold B7_neededStreets_55 at h
  refine q_iinc C 2 (v := v2 + 1) (lv' := [(2, .int (v2 + 1)), (0, .ref (qa g 0)), (1, .int v1)]) dX7_neededStreets_55 rfl rfl (by decide) rfl ?_
  refine q_norm [1, 2, 0] rfl ?_
  refine q_goto (tgt := 15) C dX7_neededStreets_58 (by decide) ?_
  exact hK15 v1 (v2 + 1) S h
def B7_neededStreets_15 (n : Nat) : Nat → Int32 → Int32 → qSt → Option (Int32 × qSt)
  | 0, _, _, _ => none
  | n9 + 1, v1, v2, S => if (S 8 1) ≤ v2 then (some (v1, S)) else (ob1 (F2_uses 103 8 v2 S) fun r4 => if r4 = 0 then (B7_neededStreets_55 n (B7_neededStreets_15 n n9) v1 v2 S) else (ob2 (F7_lengthWithout n v2 S) fun r6 S7 => if ¬ r6 = (-999) then (B7_neededStreets_55 n (B7_neededStreets_15 n n9) v1 v2 S7) else (B7_neededStreets_55 n (B7_neededStreets_15 n n9) (v1 + 1) v2 S7)))
set_option maxRecDepth 100000 in
set_option maxHeartbeats 4000000 in
theorem W7_neededStreets_15 {r : Int32} {S2 : qSt} (C : qC g cX7_neededStreets RX7 3 p s m meth c) (hr : meth.sig.returnType = (some .int)) (n : Nat) : ∀ (n9 : Nat) (v1 : Int32) (v2 : Int32) (S : qSt), B7_neededStreets_15 n n9 v1 v2 S = some (r, S2) → qR g NL qT 3 p l e rmX7_neededStreets s m args below meth c 0 0 (MQ below (qQi g NL qT (qmem g S2) r) args s 0 0 (qA g)) (qmem g S) 15 [(0, .ref (qa g 0)), (1, .int v1), (2, .int v2)] [] := by
  intro n9
  induction n9 with
  | zero =>
    intro v1 v2 S h
    have h9 : (none : Option (Int32 × qSt)) = some (r, S2) := h
    cases h9
  | succ n9 ih =>
    intro v1 v2 S h
    rw [B7_neededStreets_15] at h
    refine q_iload_n C 2 dX7_neededStreets_15 rfl rfl ?_
    refine q_aload_n C 0 dX7_neededStreets_16 rfl rfl ?_
    refine s_getr (a := 8) C lf7_33 ltp_0 kd_0 rfl dX7_neededStreets_17 ?_
    refine s_geti C lf7_103 ltp_8 kd_8 dX7_neededStreets_20 ?_
    refine q_icmp_ge (tgt := 61) C h dX7_neededStreets_23 (by decide) (fun h => ?_) (fun h => ?_)
    · refine q_iload_n C 1 dX7_neededStreets_61 rfl rfl ?_
      obtain ⟨rfl, rfl⟩ := Prod.mk.inj (Option.some.inj h)
      exact q_iret C hr (Nat.le_refl 0) (Nat.le_refl 0) dX7_neededStreets_62
    · refine q_aload_n C 0 dX7_neededStreets_26 rfl rfl ?_
      refine s_getr (a := 103) C lf7_57 ltp_0 kd_0 rfl dX7_neededStreets_27 ?_
      refine q_aload_n C 0 dX7_neededStreets_30 rfl rfl ?_
      refine s_getr (a := 8) C lf7_33 ltp_0 kd_0 rfl dX7_neededStreets_31 ?_
      refine q_iload_n C 2 dX7_neededStreets_34 rfl rfl ?_
      obtain ⟨r4, hc3, h⟩ := ob1_e h
      refine q_callVi0 C ltp_103 (qmem_o kd_103 (Nat.le_of_ble_eq_true rfl)) rfl rfl (kX2_uses 103 (tyR_103) 8 (tyT_8) v2 S hc3) lm7_150 rfl (rest := []) rfl (Nat.le_of_ble_eq_true rfl) dX7_neededStreets_35 ⟨rfl, rfl, Nat.le_of_ble_eq_true rfl, Nat.le_of_ble_eq_true rfl, Nat.le_of_ble_eq_true rfl, Nat.le_of_ble_eq_true rfl⟩ ?_
      refine q_if_eq (tgt := 55) C h dX7_neededStreets_38 (by decide) (fun h => ?_) (fun h => ?_)
      · exact W7_neededStreets_55 C hr n (B7_neededStreets_15 n n9) ih v1 v2 S h
      · refine q_aload_n C 0 dX7_neededStreets_41 rfl rfl ?_
        refine q_iload_n C 2 dX7_neededStreets_42 rfl rfl ?_
        obtain ⟨r6, S7, hc5, h⟩ := ob2_e h
        refine q_callVi0 C ltp_0 (qmem_o kd_0 (Nat.le_of_ble_eq_true rfl)) rfl rfl (kX7_lengthWithout n v2 S hc5) lm7_230 rfl (rest := []) rfl (Nat.le_of_ble_eq_true rfl) dX7_neededStreets_43 ⟨rfl, rfl, Nat.le_of_ble_eq_true rfl, Nat.le_of_ble_eq_true rfl, Nat.le_of_ble_eq_true rfl, Nat.le_of_ble_eq_true rfl⟩ ?_
        refine q_sipush (v := (-999)) C dX7_neededStreets_46 (by decide) ?_
        refine q_icmp_ne (tgt := 55) C h dX7_neededStreets_49 (by decide) (fun h => ?_) (fun h => ?_)
        · exact W7_neededStreets_55 C hr n (B7_neededStreets_15 n n9) ih v1 v2 S7 h
        · refine q_iinc C 1 (v := v1 + 1) (lv' := [(1, .int (v1 + 1)), (0, .ref (qa g 0)), (2, .int v2)]) dX7_neededStreets_52 rfl rfl (by decide) rfl ?_
          refine q_norm [1, 0, 2] rfl ?_
          exact W7_neededStreets_55 C hr n (B7_neededStreets_15 n n9) ih (v1 + 1) v2 S7 h
def F7_neededStreets (n : Nat) (S : qSt) : Option (Int32 × qSt) := ob1 (F2_find n 103 8 S) fun S2 => B7_neededStreets_15 n n 0 0 S2
set_option maxRecDepth 100000 in
set_option maxHeartbeats 4000000 in
theorem kX7_neededStreets {l : Launch} {g : qG} (n : Nat) (S : qSt) {r : Int32} {S2 : qSt} (h : F7_neededStreets n S = some (r, S2)) : Met l yX7_neededStreets [.code yX7_neededStreets cX7_neededStreets 3 (some .int)] rmX7_neededStreets (qPc g NL qT (qmem g S) [.ref (qa g 0)]) (qQi g NL qT (qmem g S2) r) 0 0 (qA g) := by
  refine q_met (by decide) (Nat.le_of_ble_eq_true rfl) (fun p e s m args below meth c C hr _ => ?_)
  have C : qC g cX7_neededStreets RX7 3 p s m meth c := C
  show qR g NL qT 3 p l e rmX7_neededStreets s m args below meth c 0 0 (MQ below (qQi g NL qT (qmem g S2) r) args s 0 0 (qA g)) (qmem g S) 0 [(0, .ref (qa g 0))] []
  unfold F7_neededStreets at h
  refine q_aload_n C 0 dX7_neededStreets_0 rfl rfl ?_
  refine s_getr (a := 103) C lf7_57 ltp_0 kd_0 rfl dX7_neededStreets_1 ?_
  refine q_aload_n C 0 dX7_neededStreets_4 rfl rfl ?_
  refine s_getr (a := 8) C lf7_33 ltp_0 kd_0 rfl dX7_neededStreets_5 ?_
  obtain ⟨S2, hc1, h⟩ := ob1_e h
  refine q_callVv0 C ltp_103 (qmem_o kd_103 (Nat.le_of_ble_eq_true rfl)) rfl rfl (kX2_find n 103 (tyR_103) 8 (tyT_8) S hc1) lm7_123 rfl (rest := []) rfl (Nat.le_of_ble_eq_true rfl) dX7_neededStreets_8 ⟨rfl, rfl, Nat.le_of_ble_eq_true rfl, Nat.le_of_ble_eq_true rfl, Nat.le_of_ble_eq_true rfl, Nat.le_of_ble_eq_true rfl⟩ ?_
  refine q_iconst (v := 0) C dX7_neededStreets_11 (by decide) ?_
  refine q_istore_n C (lv' := [(1, .int 0), (0, .ref (qa g 0))]) dX7_neededStreets_12 rfl (by decide) rfl ?_
  refine q_norm [1, 0] rfl ?_
  refine q_iconst (v := 0) C dX7_neededStreets_13 (by decide) ?_
  refine q_istore_n C (lv' := [(2, .int 0), (0, .ref (qa g 0)), (1, .int 0)]) dX7_neededStreets_14 rfl (by decide) rfl ?_
  refine q_norm [1, 2, 0] rfl ?_
  exact W7_neededStreets_15 C hr n n 0 0 S2 h
/-! ClosedStreets.acceptTrial -/
abbrev rmX7_acceptTrial : Room := { frames := 3, cells := 0, slots := 0, locals := 120 }
def F7_acceptTrial (n : Nat) (S : qSt) : Option qSt := ob1 (F0_keep n 8 S) fun S2 => ob1 (F5_copyFrom n 8 13 S2) fun S4 => some S4
set_option maxRecDepth 100000 in
set_option maxHeartbeats 4000000 in
theorem kX7_acceptTrial {l : Launch} {g : qG} (n : Nat) (S : qSt) {S2 : qSt} (h : F7_acceptTrial n S = some S2) : Met l yX7_acceptTrial [.code yX7_acceptTrial cX7_acceptTrial 1 none] rmX7_acceptTrial (qPc g NL qT (qmem g S) [.ref (qa g 0)]) (qQv g NL qT (qmem g S2)) 0 0 (qA g) := by
  refine q_met (by decide) (Nat.le_of_ble_eq_true rfl) (fun p e s m args below meth c C hr _ => ?_)
  have C : qC g cX7_acceptTrial RX7 1 p s m meth c := C
  show qR g NL qT 1 p l e rmX7_acceptTrial s m args below meth c 0 0 (MQ below (qQv g NL qT (qmem g S2)) args s 0 0 (qA g)) (qmem g S) 0 [(0, .ref (qa g 0))] []
  unfold F7_acceptTrial at h
  refine q_aload_n C 0 dX7_acceptTrial_0 rfl rfl ?_
  refine s_getr (a := 18) C lf7_43 ltp_0 kd_0 rfl dX7_acceptTrial_1 ?_
  refine q_aload_n C 0 dX7_acceptTrial_4 rfl rfl ?_
  refine s_getr (a := 8) C lf7_33 ltp_0 kd_0 rfl dX7_acceptTrial_5 ?_
  obtain ⟨S2, hc1, h⟩ := ob1_e h
  refine q_callVv0 C ltp_18 (qmem_o kd_18 (Nat.le_of_ble_eq_true rfl)) rfl rfl (kX0_keep n 8 (tyT_8) S hc1) lm7_315 rfl (rest := []) rfl (Nat.le_of_ble_eq_true rfl) dX7_acceptTrial_8 ⟨rfl, rfl, Nat.le_of_ble_eq_true rfl, Nat.le_of_ble_eq_true rfl, Nat.le_of_ble_eq_true rfl, Nat.le_of_ble_eq_true rfl⟩ ?_
  refine q_aload_n C 0 dX7_acceptTrial_11 rfl rfl ?_
  refine s_getr (a := 8) C lf7_33 ltp_0 kd_0 rfl dX7_acceptTrial_12 ?_
  refine q_aload_n C 0 dX7_acceptTrial_15 rfl rfl ?_
  refine s_getr (a := 13) C lf7_37 ltp_0 kd_0 rfl dX7_acceptTrial_16 ?_
  obtain ⟨S4, hc3, h⟩ := ob1_e h
  refine q_callVv0 C ltp_8 (qmem_o kd_8 (Nat.le_of_ble_eq_true rfl)) rfl rfl (kX5_copyFrom n 8 (tyT_8) 13 (tyT_13) S2 hc3) lm7_93 rfl (rest := []) rfl (Nat.le_of_ble_eq_true rfl) dX7_acceptTrial_19 ⟨rfl, rfl, Nat.le_of_ble_eq_true rfl, Nat.le_of_ble_eq_true rfl, Nat.le_of_ble_eq_true rfl, Nat.le_of_ble_eq_true rfl⟩ ?_
  obtain rfl := Option.some.inj h
  exact q_vret C hr (Nat.le_refl 0) (Nat.le_refl 0) dX7_acceptTrial_22
/-! ClosedStreets.planCommandOnTrial -/
abbrev rmX7_planCommandOnTrial : Room := { frames := 3, cells := 0, slots := 0, locals := 120 }
def F7_planCommandOnTrial (v1 : Int32) (S : qSt) : Option (Int32 × qSt) := if qin v1 140 = true then if (S 5 v1.toNatClampNeg) = 99 then (ob2 (F5_shut 13 (S 6 v1.toNatClampNeg) 1 S) fun r10 S11 => some (r10, S11)) else if (S 5 v1.toNatClampNeg) = 101 then (ob2 (F5_direct 13 (S 6 v1.toNatClampNeg) (S 7 v1.toNatClampNeg) S) fun r13 S14 => some (r13, S14)) else if (S 5 v1.toNatClampNeg) = 108 then (ob2 (F5_stretch 13 (S 6 v1.toNatClampNeg) (S 7 v1.toNatClampNeg) S) fun r16 S17 => some (r16, S17)) else if (S 5 v1.toNatClampNeg) = 111 then (ob2 (F5_shut 13 (S 6 v1.toNatClampNeg) 0 S) fun r19 S20 => some (r19, S20)) else (ob2 (F5_direct 13 (S 13 3) (S 13 2) S) fun r7 S8 => some (r7, S8)) else none
set_option maxRecDepth 100000 in
set_option maxHeartbeats 4000000 in
theorem kX7_planCommandOnTrial {l : Launch} {g : qG} (v1 : Int32) (S : qSt) {r : Int32} {S2 : qSt} (h : F7_planCommandOnTrial v1 S = some (r, S2)) : Met l yX7_planCommandOnTrial [.code yX7_planCommandOnTrial cX7_planCommandOnTrial 4 (some .int)] rmX7_planCommandOnTrial (qPc g NL qT (qmem g S) [.ref (qa g 0), .int v1]) (qQi g NL qT (qmem g S2) r) 0 0 (qA g) := by
  refine q_met (by decide) (Nat.le_of_ble_eq_true rfl) (fun p e s m args below meth c C hr _ => ?_)
  have C : qC g cX7_planCommandOnTrial RX7 4 p s m meth c := C
  show qR g NL qT 4 p l e rmX7_planCommandOnTrial s m args below meth c 0 0 (MQ below (qQi g NL qT (qmem g S2) r) args s 0 0 (qA g)) (qmem g S) 0 [(0, .ref (qa g 0)), (1, .int v1)] []
  unfold F7_planCommandOnTrial at h
  refine q_aload_n C 0 dX7_planCommandOnTrial_0 rfl rfl ?_
  refine s_getr (a := 4) C lf7_26 ltp_0 kd_0 rfl dX7_planCommandOnTrial_1 ?_
  refine s_getr (a := 6) C lf7_323 ltp_4 kd_4 rfl dX7_planCommandOnTrial_4 ?_
  refine q_iload_n C 1 dX7_planCommandOnTrial_7 rfl rfl ?_
  obtain ⟨hb1, h⟩ := q_if h
  refine s_iald C ltp_6 kd_6 hb1 dX7_planCommandOnTrial_8 ?_
  refine q_istore_n C (lv' := [(2, .int (S 6 v1.toNatClampNeg)), (0, .ref (qa g 0)), (1, .int v1)]) dX7_planCommandOnTrial_9 rfl (by decide) rfl ?_
  refine q_norm [1, 2, 0] rfl ?_
  refine q_aload_n C 0 dX7_planCommandOnTrial_10 rfl rfl ?_
  refine s_getr (a := 4) C lf7_26 ltp_0 kd_0 rfl dX7_planCommandOnTrial_11 ?_
  refine s_getr (a := 7) C lf7_326 ltp_4 kd_4 rfl dX7_planCommandOnTrial_14 ?_
  refine q_iload_n C 1 dX7_planCommandOnTrial_17 rfl rfl ?_
  refine s_iald C ltp_7 kd_7 hb1 dX7_planCommandOnTrial_18 ?_
  refine q_istore_n C (lv' := [(3, .int (S 7 v1.toNatClampNeg)), (0, .ref (qa g 0)), (1, .int v1), (2, .int (S 6 v1.toNatClampNeg))]) dX7_planCommandOnTrial_19 rfl (by decide) rfl ?_
  refine q_norm [1, 2, 3, 0] rfl ?_
  refine q_aload_n C 0 dX7_planCommandOnTrial_20 rfl rfl ?_
  refine s_getr (a := 4) C lf7_26 ltp_0 kd_0 rfl dX7_planCommandOnTrial_21 ?_
  refine s_getr (a := 5) C lf7_329 ltp_4 kd_4 rfl dX7_planCommandOnTrial_24 ?_
  refine q_iload_n C 1 dX7_planCommandOnTrial_27 rfl rfl ?_
  refine s_iald C ltp_5 kd_5 hb1 dX7_planCommandOnTrial_28 ?_
  rcases q_ite h with ⟨q2, h⟩ | ⟨q2, h⟩
  · refine q_lookup (off := 53) (tgt := 82) C dX7_planCommandOnTrial_29 (by decide) (by rw [q2]; rfl) (by decide) ?_
    refine q_aload_n C 0 dX7_planCommandOnTrial_82 rfl rfl ?_
    refine s_getr (a := 13) C lf7_37 ltp_0 kd_0 rfl dX7_planCommandOnTrial_83 ?_
    refine q_iload_n C 2 dX7_planCommandOnTrial_86 rfl rfl ?_
    refine q_iconst (v := 1) C dX7_planCommandOnTrial_87 (by decide) ?_
    obtain ⟨r10, S11, hc9, h⟩ := ob2_e h
    refine q_callVi0 C ltp_13 (qmem_o kd_13 (Nat.le_of_ble_eq_true rfl)) rfl rfl (kX5_shut 13 (tyT_13) (S 6 v1.toNatClampNeg) 1 S hc9) lm7_207 rfl (rest := []) rfl (Nat.le_of_ble_eq_true rfl) dX7_planCommandOnTrial_88 ⟨rfl, rfl, Nat.le_of_ble_eq_true rfl, Nat.le_of_ble_eq_true rfl, Nat.le_of_ble_eq_true rfl, Nat.le_of_ble_eq_true rfl⟩ ?_
    obtain ⟨rfl, rfl⟩ := Prod.mk.inj (Option.some.inj h)
    exact q_iret C hr (Nat.le_refl 0) (Nat.le_refl 0) dX7_planCommandOnTrial_91
  rcases q_ite h with ⟨q3, h⟩ | ⟨q3, h⟩
  · refine q_lookup (off := 73) (tgt := 102) C dX7_planCommandOnTrial_29 (by decide) (by rw [q3]; rfl) (by decide) ?_
    refine q_aload_n C 0 dX7_planCommandOnTrial_102 rfl rfl ?_
    refine s_getr (a := 13) C lf7_37 ltp_0 kd_0 rfl dX7_planCommandOnTrial_103 ?_
    refine q_iload_n C 2 dX7_planCommandOnTrial_106 rfl rfl ?_
    refine q_iload_n C 3 dX7_planCommandOnTrial_107 rfl rfl ?_
    obtain ⟨r13, S14, hc12, h⟩ := ob2_e h
    refine q_callVi0 C ltp_13 (qmem_o kd_13 (Nat.le_of_ble_eq_true rfl)) rfl rfl (kX5_direct 13 (tyT_13) (S 6 v1.toNatClampNeg) (S 7 v1.toNatClampNeg) S hc12) lm7_211 rfl (rest := []) rfl (Nat.le_of_ble_eq_true rfl) dX7_planCommandOnTrial_108 ⟨rfl, rfl, Nat.le_of_ble_eq_true rfl, Nat.le_of_ble_eq_true rfl, Nat.le_of_ble_eq_true rfl, Nat.le_of_ble_eq_true rfl⟩ ?_
    obtain ⟨rfl, rfl⟩ := Prod.mk.inj (Option.some.inj h)
    exact q_iret C hr (Nat.le_refl 0) (Nat.le_refl 0) dX7_planCommandOnTrial_111
  rcases q_ite h with ⟨q4, h⟩ | ⟨q4, h⟩
  · refine q_lookup (off := 63) (tgt := 92) C dX7_planCommandOnTrial_29 (by decide) (by rw [q4]; rfl) (by decide) ?_
    refine q_aload_n C 0 dX7_planCommandOnTrial_92 rfl rfl ?_
    refine s_getr (a := 13) C lf7_37 ltp_0 kd_0 rfl dX7_planCommandOnTrial_93 ?_
    refine q_iload_n C 2 dX7_planCommandOnTrial_96 rfl rfl ?_
    refine q_iload_n C 3 dX7_planCommandOnTrial_97 rfl rfl ?_
    obtain ⟨r16, S17, hc15, h⟩ := ob2_e h
    refine q_callVi0 C ltp_13 (qmem_o kd_13 (Nat.le_of_ble_eq_true rfl)) rfl rfl (kX5_stretch 13 (tyT_13) (S 6 v1.toNatClampNeg) (S 7 v1.toNatClampNeg) S hc15) lm7_201 rfl (rest := []) rfl (Nat.le_of_ble_eq_true rfl) dX7_planCommandOnTrial_98 ⟨rfl, rfl, Nat.le_of_ble_eq_true rfl, Nat.le_of_ble_eq_true rfl, Nat.le_of_ble_eq_true rfl, Nat.le_of_ble_eq_true rfl⟩ ?_
    obtain ⟨rfl, rfl⟩ := Prod.mk.inj (Option.some.inj h)
    exact q_iret C hr (Nat.le_refl 0) (Nat.le_refl 0) dX7_planCommandOnTrial_101
  rcases q_ite h with ⟨q5, h⟩ | ⟨q5, h⟩
  · refine q_lookup (off := 43) (tgt := 72) C dX7_planCommandOnTrial_29 (by decide) (by rw [q5]; rfl) (by decide) ?_
    refine q_aload_n C 0 dX7_planCommandOnTrial_72 rfl rfl ?_
    refine s_getr (a := 13) C lf7_37 ltp_0 kd_0 rfl dX7_planCommandOnTrial_73 ?_
    refine q_iload_n C 2 dX7_planCommandOnTrial_76 rfl rfl ?_
    refine q_iconst (v := 0) C dX7_planCommandOnTrial_77 (by decide) ?_
    obtain ⟨r19, S20, hc18, h⟩ := ob2_e h
    refine q_callVi0 C ltp_13 (qmem_o kd_13 (Nat.le_of_ble_eq_true rfl)) rfl rfl (kX5_shut 13 (tyT_13) (S 6 v1.toNatClampNeg) 0 S hc18) lm7_207 rfl (rest := []) rfl (Nat.le_of_ble_eq_true rfl) dX7_planCommandOnTrial_78 ⟨rfl, rfl, Nat.le_of_ble_eq_true rfl, Nat.le_of_ble_eq_true rfl, Nat.le_of_ble_eq_true rfl, Nat.le_of_ble_eq_true rfl⟩ ?_
    obtain ⟨rfl, rfl⟩ := Prod.mk.inj (Option.some.inj h)
    exact q_iret C hr (Nat.le_refl 0) (Nat.le_refl 0) dX7_planCommandOnTrial_81
  refine q_lookup (off := 83) (tgt := 112) C dX7_planCommandOnTrial_29 (by decide) (by have q2 := q_ne (k := 99) (by decide) q2; have q3 := q_ne (k := 101) (by decide) q3; have q4 := q_ne (k := 108) (by decide) q4; have q5 := q_ne (k := 111) (by decide) q5; show Op.lookupswitch.offset [(99, 53), (101, 73), (108, 63), (111, 43)] 83 ((S 5 v1.toNatClampNeg)).toInt = 83; rw [Op.lookupswitch.offset_cons, if_neg (Ne.symm q2), Op.lookupswitch.offset_cons, if_neg (Ne.symm q3), Op.lookupswitch.offset_cons, if_neg (Ne.symm q4), Op.lookupswitch.offset_cons, if_neg (Ne.symm q5)]; rfl) (by decide) ?_
  refine q_aload_n C 0 dX7_planCommandOnTrial_112 rfl rfl ?_
  refine s_getr (a := 13) C lf7_37 ltp_0 kd_0 rfl dX7_planCommandOnTrial_113 ?_
  refine q_aload_n C 0 dX7_planCommandOnTrial_116 rfl rfl ?_
  refine s_getr (a := 13) C lf7_37 ltp_0 kd_0 rfl dX7_planCommandOnTrial_117 ?_
  refine s_geti C lf7_116 ltp_13 kd_13 dX7_planCommandOnTrial_120 ?_
  refine q_aload_n C 0 dX7_planCommandOnTrial_123 rfl rfl ?_
  refine s_getr (a := 13) C lf7_37 ltp_0 kd_0 rfl dX7_planCommandOnTrial_124 ?_
  refine s_geti C lf7_113 ltp_13 kd_13 dX7_planCommandOnTrial_127 ?_
  obtain ⟨r7, S8, hc6, h⟩ := ob2_e h
  refine q_callVi0 C ltp_13 (qmem_o kd_13 (Nat.le_of_ble_eq_true rfl)) rfl rfl (kX5_direct 13 (tyT_13) (S 13 3) (S 13 2) S hc6) lm7_211 rfl (rest := []) rfl (Nat.le_of_ble_eq_true rfl) dX7_planCommandOnTrial_130 ⟨rfl, rfl, Nat.le_of_ble_eq_true rfl, Nat.le_of_ble_eq_true rfl, Nat.le_of_ble_eq_true rfl, Nat.le_of_ble_eq_true rfl⟩ ?_
  obtain ⟨rfl, rfl⟩ := Prod.mk.inj (Option.some.inj h)
  exact q_iret C hr (Nat.le_refl 0) (Nat.le_refl 0) dX7_planCommandOnTrial_133
/-! ClosedStreets.dearest -/
abbrev rmX7_dearest : Room := { frames := 5, cells := 0, slots := 0, locals := 200 }
def B7_dearest_80 (n : Nat) (K19 : Int32 → Int32 → Int32 → qSt → Option (Int32 × qSt)) (v1 : Int32) (v2 : Int32) (v3 : Int32) (S : qSt) : Option (Int32 × qSt) := K19 v1 v2 (v3 + 1) S
set_option maxRecDepth 100000 in
set_option maxHeartbeats 4000000 in
theorem W7_dearest_80 {r : Int32} {S2 : qSt} (C : qC g cX7_dearest RX7 5 p s m meth c) (hr : meth.sig.returnType = (some .int)) (n : Nat) (K19 : Int32 → Int32 → Int32 → qSt → Option (Int32 × qSt)) (hK19 : ∀ (v1 : Int32) (v2 : Int32) (v3 : Int32) (S : qSt), K19 v1 v2 v3 S = some (r, S2) → qR g NL qT 5 p l e rmX7_dearest s m args below meth c 0 0 (MQ below (qQi g NL qT (qmem g S2) r) args s 0 0 (qA g)) (qmem g S) 19 [(0, .ref (qa g 0)), (1, .int v1), (2, .int v2), (3, .int v3)] []) (v1 : Int32) (v2 : Int32) (v3 : Int32) (S : qSt) (h : B7_dearest_80 n K19 v1 v2 v3 S = some (r, S2)) : qR g NL qT 5 p l e rmX7_dearest s m args below meth c 0 0 (MQ below (qQi g NL qT (qmem g S2) r) args s 0 0 (qA g)) (qmem g S) 80 [(0, .ref (qa g 0)), (1, .int v1), (2, .int v2), (3, .int v3)] [] := by
  unfold B7_dearest_80 at h
  refine q_iinc C 3 (v := v3 + 1) (lv' := [(3, .int (v3 + 1)), (0, .ref (qa g 0)), (1, .int v1), (2, .int v2)]) dX7_dearest_80 rfl rfl (by decide) rfl ?_
  refine q_norm [1, 2, 3, 0] rfl ?_
  refine q_goto (tgt := 19) C dX7_dearest_83 (by decide) ?_
  exact hK19 v1 v2 (v3 + 1) S h
def B7_dearest_75 (n : Nat) (K19 : Int32 → Int32 → Int32 → qSt → Option (Int32 × qSt)) (v3 : Int32) (v4 : Int32) (S : qSt) : Option (Int32 × qSt) := B7_dearest_80 n K19 v3 v4 v3 S
set_option maxRecDepth 100000 in
set_option maxHeartbeats 4000000 in
theorem W7_dearest_75 {r : Int32} {S2 : qSt} (C : qC g cX7_dearest RX7 5 p s m meth c) (hr : meth.sig.returnType = (some .int)) (n : Nat) (K19 : Int32 → Int32 → Int32 → qSt → Option (Int32 × qSt)) (hK19 : ∀ (v1 : Int32) (v2 : Int32) (v3 : Int32) (S : qSt), K19 v1 v2 v3 S = some (r, S2) → qR g NL qT 5 p l e rmX7_dearest s m args below meth c 0 0 (MQ below (qQi g NL qT (qmem g S2) r) args s 0 0 (qA g)) (qmem g S) 19 [(0, .ref (qa g 0)), (1, .int v1), (2, .int v2), (3, .int v3)] []) (v3 : Int32) (v4 : Int32) (S : qSt) (h : B7_dearest_75 n K19 v3 v4 S = some (r, S2)) : qR g NL qT 5 p l e rmX7_dearest s m args below meth c 0 0 (MQ below (qQi g NL qT (qmem g S2) r) args s 0 0 (qA g)) (qmem g S) 75 [(0, .ref (qa g 0)), (3, .int v3), (4, .int v4)] [] := by
  unfold B7_dearest_75 at h
  refine q_iload_n C 1 dX7_dearest_75 rfl rfl ?_
  refine q_istore_n C (lv' := [(1, .int v3), (0, .ref (qa g 0)), (3, .int v3), (4, .int v4)]) dX7_dearest_76 rfl (by decide) rfl ?_
  refine q_norm [1, 0, 2, 3] rfl ?_
  refine q_iload C 3 dX7_dearest_77 rfl ?_
  refine q_istore_n C (lv' := [(2, .int v4), (0, .ref (qa g 0)), (1, .int v3), (3, .int v3), (4, .int v4)]) dX7_dearest_79 rfl (by decide) rfl ?_
  refine q_norm [1, 2, 0, 3, 4] rfl ?_
  refine q_norm [0, 1, 2, 3] rfl ?_
  exact W7_dearest_80 C hr n K19 hK19 v3 v4 v3 S h
def B7_dearest_19 (n : Nat) : Nat → Int32 → Int32 → Int32 → qSt → Option (Int32 × qSt)
  | 0, _, _, _, _ => none
  | n9 + 1, v1, v2, v3, S => if (S 8 1) ≤ v3 then (some (v1, S)) else (ob1 (F2_uses 103 8 v3 S) fun r4 => if r4 = 0 then (B7_dearest_80 n (B7_dearest_19 n n9) v1 v2 v3 S) else (ob2 (F7_lengthWithout n v3 S) fun r6 S7 => if ¬ r6 = (-999) then (if v1 = (-999) then (B7_dearest_75 n (B7_dearest_19 n n9) v3 r6 S7) else (if r6 ≤ v2 then (B7_dearest_80 n (B7_dearest_19 n n9) v1 v2 v3 S7) else (B7_dearest_75 n (B7_dearest_19 n n9) v3 r6 S7))) else (some (v3, S7))))
set_option maxRecDepth 100000 in
set_option maxHeartbeats 4000000 in
theorem W7_dearest_19 {r : Int32} {S2 : qSt} (C : qC g cX7_dearest RX7 5 p s m meth c) (hr : meth.sig.returnType = (some .int)) (n : Nat) : ∀ (n9 : Nat) (v1 : Int32) (v2 : Int32) (v3 : Int32) (S : qSt), B7_dearest_19 n n9 v1 v2 v3 S = some (r, S2) → qR g NL qT 5 p l e rmX7_dearest s m args below meth c 0 0 (MQ below (qQi g NL qT (qmem g S2) r) args s 0 0 (qA g)) (qmem g S) 19 [(0, .ref (qa g 0)), (1, .int v1), (2, .int v2), (3, .int v3)] [] := by
  intro n9
  induction n9 with
  | zero =>
    intro v1 v2 v3 S h
    have h9 : (none : Option (Int32 × qSt)) = some (r, S2) := h
    cases h9
  | succ n9 ih =>
    intro v1 v2 v3 S h
    rw [B7_dearest_19] at h
    refine q_iload_n C 3 dX7_dearest_19 rfl rfl ?_
    refine q_aload_n C 0 dX7_dearest_20 rfl rfl ?_
    refine s_getr (a := 8) C lf7_33 ltp_0 kd_0 rfl dX7_dearest_21 ?_
    refine s_geti C lf7_103 ltp_8 kd_8 dX7_dearest_24 ?_
    refine q_icmp_ge (tgt := 86) C h dX7_dearest_27 (by decide) (fun h => ?_) (fun h => ?_)
    · refine q_iload_n C 1 dX7_dearest_86 rfl rfl ?_
      obtain ⟨rfl, rfl⟩ := Prod.mk.inj (Option.some.inj h)
      exact q_iret C hr (Nat.le_refl 0) (Nat.le_refl 0) dX7_dearest_87
    · refine q_aload_n C 0 dX7_dearest_30 rfl rfl ?_
      refine s_getr (a := 103) C lf7_57 ltp_0 kd_0 rfl dX7_dearest_31 ?_
      refine q_aload_n C 0 dX7_dearest_34 rfl rfl ?_
      refine s_getr (a := 8) C lf7_33 ltp_0 kd_0 rfl dX7_dearest_35 ?_
      refine q_iload_n C 3 dX7_dearest_38 rfl rfl ?_
      obtain ⟨r4, hc3, h⟩ := ob1_e h
      refine q_callVi0 C ltp_103 (qmem_o kd_103 (Nat.le_of_ble_eq_true rfl)) rfl rfl (kX2_uses 103 (tyR_103) 8 (tyT_8) v3 S hc3) lm7_150 rfl (rest := []) rfl (Nat.le_of_ble_eq_true rfl) dX7_dearest_39 ⟨rfl, rfl, Nat.le_of_ble_eq_true rfl, Nat.le_of_ble_eq_true rfl, Nat.le_of_ble_eq_true rfl, Nat.le_of_ble_eq_true rfl⟩ ?_
      refine q_if_eq (tgt := 80) C h dX7_dearest_42 (by decide) (fun h => ?_) (fun h => ?_)
      · exact W7_dearest_80 C hr n (B7_dearest_19 n n9) ih v1 v2 v3 S h
      · refine q_aload_n C 0 dX7_dearest_45 rfl rfl ?_
        refine q_iload_n C 3 dX7_dearest_46 rfl rfl ?_
        obtain ⟨r6, S7, hc5, h⟩ := ob2_e h
        refine q_callVi0 C ltp_0 (qmem_o kd_0 (Nat.le_of_ble_eq_true rfl)) rfl rfl (kX7_lengthWithout n v3 S hc5) lm7_230 rfl (rest := []) rfl (Nat.le_of_ble_eq_true rfl) dX7_dearest_47 ⟨rfl, rfl, Nat.le_of_ble_eq_true rfl, Nat.le_of_ble_eq_true rfl, Nat.le_of_ble_eq_true rfl, Nat.le_of_ble_eq_true rfl⟩ ?_
        refine q_istore C (lv' := [(4, .int r6), (0, .ref (qa g 0)), (1, .int v1), (2, .int v2), (3, .int v3)]) dX7_dearest_50 (by decide) rfl ?_
        refine q_norm [1, 2, 3, 4, 0] rfl ?_
        refine q_iload C 4 dX7_dearest_52 rfl ?_
        refine q_sipush (v := (-999)) C dX7_dearest_54 (by decide) ?_
        refine q_icmp_ne (tgt := 62) C h dX7_dearest_57 (by decide) (fun h => ?_) (fun h => ?_)
        · refine q_iload_n C 1 dX7_dearest_62 rfl rfl ?_
          refine q_sipush (v := (-999)) C dX7_dearest_63 (by decide) ?_
          refine q_icmp_eq (tgt := 75) C h dX7_dearest_66 (by decide) (fun h => ?_) (fun h => ?_)
          · refine q_norm [0, 3, 4] rfl ?_
            exact W7_dearest_75 C hr n (B7_dearest_19 n n9) ih v3 r6 S7 h
          · refine q_iload C 4 dX7_dearest_69 rfl ?_
            refine q_iload_n C 2 dX7_dearest_71 rfl rfl ?_
            refine q_icmp_le (tgt := 80) C h dX7_dearest_72 (by decide) (fun h => ?_) (fun h => ?_)
            · refine q_norm [0, 1, 2, 3] rfl ?_
              exact W7_dearest_80 C hr n (B7_dearest_19 n n9) ih v1 v2 v3 S7 h
            · refine q_norm [0, 3, 4] rfl ?_
              exact W7_dearest_75 C hr n (B7_dearest_19 n n9) ih v3 r6 S7 h
        · refine q_iload_n C 3 dX7_dearest_60 rfl rfl ?_
          obtain ⟨rfl, rfl⟩ := Prod.mk.inj (Option.some.inj h)
          exact q_iret C hr (Nat.le_refl 0) (Nat.le_refl 0) dX7_dearest_61
def F7_dearest (n : Nat) (S : qSt) : Option (Int32 × qSt) := ob1 (F2_find n 103 8 S) fun S2 => B7_dearest_19 n n (-999) 0 0 S2
set_option maxRecDepth 100000 in
set_option maxHeartbeats 4000000 in
theorem kX7_dearest {l : Launch} {g : qG} (n : Nat) (S : qSt) {r : Int32} {S2 : qSt} (h : F7_dearest n S = some (r, S2)) : Met l yX7_dearest [.code yX7_dearest cX7_dearest 5 (some .int)] rmX7_dearest (qPc g NL qT (qmem g S) [.ref (qa g 0)]) (qQi g NL qT (qmem g S2) r) 0 0 (qA g) := by
  refine q_met (by decide) (Nat.le_of_ble_eq_true rfl) (fun p e s m args below meth c C hr _ => ?_)
  have C : qC g cX7_dearest RX7 5 p s m meth c := C
  show qR g NL qT 5 p l e rmX7_dearest s m args below meth c 0 0 (MQ below (qQi g NL qT (qmem g S2) r) args s 0 0 (qA g)) (qmem g S) 0 [(0, .ref (qa g 0))] []
  unfold F7_dearest at h
  refine q_aload_n C 0 dX7_dearest_0 rfl rfl ?_
  refine s_getr (a := 103) C lf7_57 ltp_0 kd_0 rfl dX7_dearest_1 ?_
  refine q_aload_n C 0 dX7_dearest_4 rfl rfl ?_
  refine s_getr (a := 8) C lf7_33 ltp_0 kd_0 rfl dX7_dearest_5 ?_
  obtain ⟨S2, hc1, h⟩ := ob1_e h
  refine q_callVv0 C ltp_103 (qmem_o kd_103 (Nat.le_of_ble_eq_true rfl)) rfl rfl (kX2_find n 103 (tyR_103) 8 (tyT_8) S hc1) lm7_123 rfl (rest := []) rfl (Nat.le_of_ble_eq_true rfl) dX7_dearest_8 ⟨rfl, rfl, Nat.le_of_ble_eq_true rfl, Nat.le_of_ble_eq_true rfl, Nat.le_of_ble_eq_true rfl, Nat.le_of_ble_eq_true rfl⟩ ?_
  refine q_sipush (v := (-999)) C dX7_dearest_11 (by decide) ?_
  refine q_istore_n C (lv' := [(1, .int (-999)), (0, .ref (qa g 0))]) dX7_dearest_14 rfl (by decide) rfl ?_
  refine q_norm [1, 0] rfl ?_
  refine q_iconst (v := 0) C dX7_dearest_15 (by decide) ?_
  refine q_istore_n C (lv' := [(2, .int 0), (0, .ref (qa g 0)), (1, .int (-999))]) dX7_dearest_16 rfl (by decide) rfl ?_
  refine q_norm [1, 2, 0] rfl ?_
  refine q_iconst (v := 0) C dX7_dearest_17 (by decide) ?_
  refine q_istore_n C (lv' := [(3, .int 0), (0, .ref (qa g 0)), (1, .int (-999)), (2, .int 0)]) dX7_dearest_18 rfl (by decide) rfl ?_
  refine q_norm [1, 2, 3, 0] rfl ?_
  exact W7_dearest_19 C hr n n (-999) 0 0 S2 h
/-! ClosedStreets.isOnBestWayOfTrial -/
abbrev rmX7_isOnBestWayOfTrial : Room := { frames := 4, cells := 0, slots := 0, locals := 160 }
def F7_isOnBestWayOfTrial (n : Nat) (v1 : Int32) (S : qSt) : Option (Int32 × qSt) := ob1 (F2_find n 107 13 S) fun S2 => if (F5_hasStreet 13 v1 S2) = 0 then (some (0, S2)) else (ob1 (F2_uses 107 13 v1 S2) fun r4 => if r4 = 0 then (some (0, S2)) else (some (1, S2)))
set_option maxRecDepth 100000 in
set_option maxHeartbeats 4000000 in
theorem kX7_isOnBestWayOfTrial {l : Launch} {g : qG} (n : Nat) (v1 : Int32) (S : qSt) {r : Int32} {S2 : qSt} (h : F7_isOnBestWayOfTrial n v1 S = some (r, S2)) : Met l yX7_isOnBestWayOfTrial [.code yX7_isOnBestWayOfTrial cX7_isOnBestWayOfTrial 2 (some .boolean)] rmX7_isOnBestWayOfTrial (qPc g NL qT (qmem g S) [.ref (qa g 0), .int v1]) (qQi g NL qT (qmem g S2) r) 0 0 (qA g) := by
  refine q_met (by decide) (Nat.le_of_ble_eq_true rfl) (fun p e s m args below meth c C hr _ => ?_)
  have C : qC g cX7_isOnBestWayOfTrial RX7 2 p s m meth c := C
  show qR g NL qT 2 p l e rmX7_isOnBestWayOfTrial s m args below meth c 0 0 (MQ below (qQi g NL qT (qmem g S2) r) args s 0 0 (qA g)) (qmem g S) 0 [(0, .ref (qa g 0)), (1, .int v1)] []
  unfold F7_isOnBestWayOfTrial at h
  refine q_aload_n C 0 dX7_isOnBestWayOfTrial_0 rfl rfl ?_
  refine s_getr (a := 107) C lf7_61 ltp_0 kd_0 rfl dX7_isOnBestWayOfTrial_1 ?_
  refine q_aload_n C 0 dX7_isOnBestWayOfTrial_4 rfl rfl ?_
  refine s_getr (a := 13) C lf7_37 ltp_0 kd_0 rfl dX7_isOnBestWayOfTrial_5 ?_
  obtain ⟨S2, hc1, h⟩ := ob1_e h
  refine q_callVv0 C ltp_107 (qmem_o kd_107 (Nat.le_of_ble_eq_true rfl)) rfl rfl (kX2_find n 107 (tyR_107) 13 (tyT_13) S hc1) lm7_123 rfl (rest := []) rfl (Nat.le_of_ble_eq_true rfl) dX7_isOnBestWayOfTrial_8 ⟨rfl, rfl, Nat.le_of_ble_eq_true rfl, Nat.le_of_ble_eq_true rfl, Nat.le_of_ble_eq_true rfl, Nat.le_of_ble_eq_true rfl⟩ ?_
  refine q_aload_n C 0 dX7_isOnBestWayOfTrial_11 rfl rfl ?_
  refine s_getr (a := 13) C lf7_37 ltp_0 kd_0 rfl dX7_isOnBestWayOfTrial_12 ?_
  refine q_iload_n C 1 dX7_isOnBestWayOfTrial_15 rfl rfl ?_
  refine q_callVi0 C ltp_13 (qmem_o kd_13 (Nat.le_of_ble_eq_true rfl)) rfl rfl (kX5_hasStreet 13 (tyT_13) v1 S2) lm7_301 rfl (rest := []) rfl (Nat.le_of_ble_eq_true rfl) dX7_isOnBestWayOfTrial_16 ⟨rfl, rfl, Nat.le_of_ble_eq_true rfl, Nat.le_of_ble_eq_true rfl, Nat.le_of_ble_eq_true rfl, Nat.le_of_ble_eq_true rfl⟩ ?_
  refine q_if_eq (tgt := 41) C h dX7_isOnBestWayOfTrial_19 (by decide) (fun h => ?_) (fun h => ?_)
  · refine q_iconst (v := 0) C dX7_isOnBestWayOfTrial_41 (by decide) ?_
    obtain ⟨rfl, rfl⟩ := Prod.mk.inj (Option.some.inj h)
    exact q_zret C hr (by decide) (Nat.le_refl 0) (Nat.le_refl 0) dX7_isOnBestWayOfTrial_42
  · refine q_aload_n C 0 dX7_isOnBestWayOfTrial_22 rfl rfl ?_
    refine s_getr (a := 107) C lf7_61 ltp_0 kd_0 rfl dX7_isOnBestWayOfTrial_23 ?_
    refine q_aload_n C 0 dX7_isOnBestWayOfTrial_26 rfl rfl ?_
    refine s_getr (a := 13) C lf7_37 ltp_0 kd_0 rfl dX7_isOnBestWayOfTrial_27 ?_
    refine q_iload_n C 1 dX7_isOnBestWayOfTrial_30 rfl rfl ?_
    obtain ⟨r4, hc3, h⟩ := ob1_e h
    refine q_callVi0 C ltp_107 (qmem_o kd_107 (Nat.le_of_ble_eq_true rfl)) rfl rfl (kX2_uses 107 (tyR_107) 13 (tyT_13) v1 S2 hc3) lm7_150 rfl (rest := []) rfl (Nat.le_of_ble_eq_true rfl) dX7_isOnBestWayOfTrial_31 ⟨rfl, rfl, Nat.le_of_ble_eq_true rfl, Nat.le_of_ble_eq_true rfl, Nat.le_of_ble_eq_true rfl, Nat.le_of_ble_eq_true rfl⟩ ?_
    refine q_if_eq (tgt := 41) C h dX7_isOnBestWayOfTrial_34 (by decide) (fun h => ?_) (fun h => ?_)
    · refine q_iconst (v := 0) C dX7_isOnBestWayOfTrial_41 (by decide) ?_
      obtain ⟨rfl, rfl⟩ := Prod.mk.inj (Option.some.inj h)
      exact q_zret C hr (by decide) (Nat.le_refl 0) (Nat.le_refl 0) dX7_isOnBestWayOfTrial_42
    · refine q_iconst (v := 1) C dX7_isOnBestWayOfTrial_37 (by decide) ?_
      refine q_goto (tgt := 42) C dX7_isOnBestWayOfTrial_38 (by decide) ?_
      obtain ⟨rfl, rfl⟩ := Prod.mk.inj (Option.some.inj h)
      exact q_zret C hr (by decide) (Nat.le_refl 0) (Nat.le_refl 0) dX7_isOnBestWayOfTrial_42
/-! ClosedStreets.isOnBestWayWithLength -/
abbrev rmX7_isOnBestWayWithLength : Room := { frames := 5, cells := 0, slots := 0, locals := 200 }
def F7_isOnBestWayWithLength (n : Nat) (v1 : Int32) (v2 : Int32) (S : qSt) : Option (Int32 × qSt) := ob2 (F5_stretch 13 v1 v2 S) fun r2 S3 => if ¬ r2 = 0 then (some (0, S3)) else (ob2 (F7_isOnBestWayOfTrial n v1 S3) fun r5 S6 => if r5 = 0 then (some (0, S6)) else (some (1, S6)))
set_option maxRecDepth 100000 in
set_option maxHeartbeats 4000000 in
theorem kX7_isOnBestWayWithLength {l : Launch} {g : qG} (n : Nat) (v1 : Int32) (v2 : Int32) (S : qSt) {r : Int32} {S2 : qSt} (h : F7_isOnBestWayWithLength n v1 v2 S = some (r, S2)) : Met l yX7_isOnBestWayWithLength [.code yX7_isOnBestWayWithLength cX7_isOnBestWayWithLength 3 (some .boolean)] rmX7_isOnBestWayWithLength (qPc g NL qT (qmem g S) [.ref (qa g 0), .int v1, .int v2]) (qQi g NL qT (qmem g S2) r) 0 0 (qA g) := by
  refine q_met (by decide) (Nat.le_of_ble_eq_true rfl) (fun p e s m args below meth c C hr _ => ?_)
  have C : qC g cX7_isOnBestWayWithLength RX7 3 p s m meth c := C
  show qR g NL qT 3 p l e rmX7_isOnBestWayWithLength s m args below meth c 0 0 (MQ below (qQi g NL qT (qmem g S2) r) args s 0 0 (qA g)) (qmem g S) 0 [(0, .ref (qa g 0)), (1, .int v1), (2, .int v2)] []
  unfold F7_isOnBestWayWithLength at h
  refine q_aload_n C 0 dX7_isOnBestWayWithLength_0 rfl rfl ?_
  refine s_getr (a := 13) C lf7_37 ltp_0 kd_0 rfl dX7_isOnBestWayWithLength_1 ?_
  refine q_iload_n C 1 dX7_isOnBestWayWithLength_4 rfl rfl ?_
  refine q_iload_n C 2 dX7_isOnBestWayWithLength_5 rfl rfl ?_
  obtain ⟨r2, S3, hc1, h⟩ := ob2_e h
  refine q_callVi0 C ltp_13 (qmem_o kd_13 (Nat.le_of_ble_eq_true rfl)) rfl rfl (kX5_stretch 13 (tyT_13) v1 v2 S hc1) lm7_201 rfl (rest := []) rfl (Nat.le_of_ble_eq_true rfl) dX7_isOnBestWayWithLength_6 ⟨rfl, rfl, Nat.le_of_ble_eq_true rfl, Nat.le_of_ble_eq_true rfl, Nat.le_of_ble_eq_true rfl, Nat.le_of_ble_eq_true rfl⟩ ?_
  refine q_if_ne (tgt := 24) C h dX7_isOnBestWayWithLength_9 (by decide) (fun h => ?_) (fun h => ?_)
  · refine q_iconst (v := 0) C dX7_isOnBestWayWithLength_24 (by decide) ?_
    obtain ⟨rfl, rfl⟩ := Prod.mk.inj (Option.some.inj h)
    exact q_zret C hr (by decide) (Nat.le_refl 0) (Nat.le_refl 0) dX7_isOnBestWayWithLength_25
  · refine q_aload_n C 0 dX7_isOnBestWayWithLength_12 rfl rfl ?_
    refine q_iload_n C 1 dX7_isOnBestWayWithLength_13 rfl rfl ?_
    obtain ⟨r5, S6, hc4, h⟩ := ob2_e h
    refine q_callVi0 C ltp_0 (qmem_o kd_0 (Nat.le_of_ble_eq_true rfl)) rfl rfl (kX7_isOnBestWayOfTrial n v1 S3 hc4) lm7_317 rfl (rest := []) rfl (Nat.le_of_ble_eq_true rfl) dX7_isOnBestWayWithLength_14 ⟨rfl, rfl, Nat.le_of_ble_eq_true rfl, Nat.le_of_ble_eq_true rfl, Nat.le_of_ble_eq_true rfl, Nat.le_of_ble_eq_true rfl⟩ ?_
    refine q_if_eq (tgt := 24) C h dX7_isOnBestWayWithLength_17 (by decide) (fun h => ?_) (fun h => ?_)
    · refine q_iconst (v := 0) C dX7_isOnBestWayWithLength_24 (by decide) ?_
      obtain ⟨rfl, rfl⟩ := Prod.mk.inj (Option.some.inj h)
      exact q_zret C hr (by decide) (Nat.le_refl 0) (Nat.le_refl 0) dX7_isOnBestWayWithLength_25
    · refine q_iconst (v := 1) C dX7_isOnBestWayWithLength_20 (by decide) ?_
      refine q_goto (tgt := 25) C dX7_isOnBestWayWithLength_21 (by decide) ?_
      obtain ⟨rfl, rfl⟩ := Prod.mk.inj (Option.some.inj h)
      exact q_zret C hr (by decide) (Nat.le_refl 0) (Nat.le_refl 0) dX7_isOnBestWayWithLength_25
/-! ClosedStreets.middle -/
abbrev rmX7_middle : Room := { frames := 3, cells := 0, slots := 0, locals := 120 }
def B7_middle_74 (n : Nat) (K8 : Int32 → Int32 → Int32 → qSt → Option (Int32 × qSt)) (v1 : Int32) (v2 : Int32) (v3 : Int32) (S : qSt) : Option (Int32 × qSt) := K8 v1 v2 (v3 + 1) S
set_option maxRecDepth 100000 in
set_option maxHeartbeats 4000000 in
theorem W7_middle_74 {r : Int32} {S2 : qSt} (C : qC g cX7_middle RX7 5 p s m meth c) (hr : meth.sig.returnType = (some .int)) (n : Nat) (K8 : Int32 → Int32 → Int32 → qSt → Option (Int32 × qSt)) (hK8 : ∀ (v1 : Int32) (v2 : Int32) (v3 : Int32) (S : qSt), K8 v1 v2 v3 S = some (r, S2) → qR g NL qT 5 p l e rmX7_middle s m args below meth c 0 0 (MQ below (qQi g NL qT (qmem g S2) r) args s 0 0 (qA g)) (qmem g S) 8 [(0, .ref (qa g 0)), (1, .int v1), (2, .int v2), (3, .int v3)] []) (v1 : Int32) (v2 : Int32) (v3 : Int32) (S : qSt) (h : B7_middle_74 n K8 v1 v2 v3 S = some (r, S2)) : qR g NL qT 5 p l e rmX7_middle s m args below meth c 0 0 (MQ below (qQi g NL qT (qmem g S2) r) args s 0 0 (qA g)) (qmem g S) 74 [(0, .ref (qa g 0)), (1, .int v1), (2, .int v2), (3, .int v3)] [] := by
  unfold B7_middle_74 at h
  refine q_iinc C 3 (v := v3 + 1) (lv' := [(3, .int (v3 + 1)), (0, .ref (qa g 0)), (1, .int v1), (2, .int v2)]) dX7_middle_74 rfl rfl (by decide) rfl ?_
  refine q_norm [1, 2, 3, 0] rfl ?_
  refine q_goto (tgt := 8) C dX7_middle_77 (by decide) ?_
  exact hK8 v1 v2 (v3 + 1) S h
def B7_middle_69 (n : Nat) (K8 : Int32 → Int32 → Int32 → qSt → Option (Int32 × qSt)) (v3 : Int32) (v4 : Int32) (S : qSt) : Option (Int32 × qSt) := B7_middle_74 n K8 v3 v4 v3 S
set_option maxRecDepth 100000 in
set_option maxHeartbeats 4000000 in
theorem W7_middle_69 {r : Int32} {S2 : qSt} (C : qC g cX7_middle RX7 5 p s m meth c) (hr : meth.sig.returnType = (some .int)) (n : Nat) (K8 : Int32 → Int32 → Int32 → qSt → Option (Int32 × qSt)) (hK8 : ∀ (v1 : Int32) (v2 : Int32) (v3 : Int32) (S : qSt), K8 v1 v2 v3 S = some (r, S2) → qR g NL qT 5 p l e rmX7_middle s m args below meth c 0 0 (MQ below (qQi g NL qT (qmem g S2) r) args s 0 0 (qA g)) (qmem g S) 8 [(0, .ref (qa g 0)), (1, .int v1), (2, .int v2), (3, .int v3)] []) (v3 : Int32) (v4 : Int32) (S : qSt) (h : B7_middle_69 n K8 v3 v4 S = some (r, S2)) : qR g NL qT 5 p l e rmX7_middle s m args below meth c 0 0 (MQ below (qQi g NL qT (qmem g S2) r) args s 0 0 (qA g)) (qmem g S) 69 [(0, .ref (qa g 0)), (3, .int v3), (4, .int v4)] [] := by
  unfold B7_middle_69 at h
  refine q_iload_n C 1 dX7_middle_69 rfl rfl ?_
  refine q_istore_n C (lv' := [(1, .int v3), (0, .ref (qa g 0)), (3, .int v3), (4, .int v4)]) dX7_middle_70 rfl (by decide) rfl ?_
  refine q_norm [1, 0, 2, 3] rfl ?_
  refine q_iload C 3 dX7_middle_71 rfl ?_
  refine q_istore_n C (lv' := [(2, .int v4), (0, .ref (qa g 0)), (1, .int v3), (3, .int v3), (4, .int v4)]) dX7_middle_73 rfl (by decide) rfl ?_
  refine q_norm [1, 2, 0, 3, 4] rfl ?_
  refine q_norm [0, 1, 2, 3] rfl ?_
  exact W7_middle_74 C hr n K8 hK8 v3 v4 v3 S h
def B7_middle_8 (n : Nat) : Nat → Int32 → Int32 → Int32 → qSt → Option (Int32 × qSt)
  | 0, _, _, _, _ => none
  | n9 + 1, v1, v2, v3, S => if (S 8 0) ≤ v3 then (some (v1, S)) else (ob1 (F2_weigh n 103 8 v3 S) fun S2 => ob1 (F2_farthest n 103 8 S2) fun r4 => if ¬ r4 = (-999) then (if v1 = (-999) then (B7_middle_69 n (B7_middle_8 n n9) v3 r4 S2) else (if v2 ≤ r4 then (B7_middle_74 n (B7_middle_8 n n9) v1 v2 v3 S2) else (B7_middle_69 n (B7_middle_8 n n9) v3 r4 S2))) else (some ((-999), S2)))
set_option maxRecDepth 100000 in
set_option maxHeartbeats 4000000 in
theorem W7_middle_8 {r : Int32} {S2 : qSt} (C : qC g cX7_middle RX7 5 p s m meth c) (hr : meth.sig.returnType = (some .int)) (n : Nat) : ∀ (n9 : Nat) (v1 : Int32) (v2 : Int32) (v3 : Int32) (S : qSt), B7_middle_8 n n9 v1 v2 v3 S = some (r, S2) → qR g NL qT 5 p l e rmX7_middle s m args below meth c 0 0 (MQ below (qQi g NL qT (qmem g S2) r) args s 0 0 (qA g)) (qmem g S) 8 [(0, .ref (qa g 0)), (1, .int v1), (2, .int v2), (3, .int v3)] [] := by
  intro n9
  induction n9 with
  | zero =>
    intro v1 v2 v3 S h
    have h9 : (none : Option (Int32 × qSt)) = some (r, S2) := h
    cases h9
  | succ n9 ih =>
    intro v1 v2 v3 S h
    rw [B7_middle_8] at h
    refine q_iload_n C 3 dX7_middle_8 rfl rfl ?_
    refine q_aload_n C 0 dX7_middle_9 rfl rfl ?_
    refine s_getr (a := 8) C lf7_33 ltp_0 kd_0 rfl dX7_middle_10 ?_
    refine s_geti C lf7_106 ltp_8 kd_8 dX7_middle_13 ?_
    refine q_icmp_ge (tgt := 80) C h dX7_middle_16 (by decide) (fun h => ?_) (fun h => ?_)
    · refine q_iload_n C 1 dX7_middle_80 rfl rfl ?_
      obtain ⟨rfl, rfl⟩ := Prod.mk.inj (Option.some.inj h)
      exact q_iret C hr (Nat.le_refl 0) (Nat.le_refl 0) dX7_middle_81
    · refine q_aload_n C 0 dX7_middle_19 rfl rfl ?_
      refine s_getr (a := 103) C lf7_57 ltp_0 kd_0 rfl dX7_middle_20 ?_
      refine q_aload_n C 0 dX7_middle_23 rfl rfl ?_
      refine s_getr (a := 8) C lf7_33 ltp_0 kd_0 rfl dX7_middle_24 ?_
      refine q_iload_n C 3 dX7_middle_27 rfl rfl ?_
      obtain ⟨S2, hc1, h⟩ := ob1_e h
      refine q_callVv0 C ltp_103 (qmem_o kd_103 (Nat.le_of_ble_eq_true rfl)) rfl rfl (kX2_weigh n 103 (tyR_103) 8 (tyT_8) v3 S hc1) lm7_163 rfl (rest := []) rfl (Nat.le_of_ble_eq_true rfl) dX7_middle_28 ⟨rfl, rfl, Nat.le_of_ble_eq_true rfl, Nat.le_of_ble_eq_true rfl, Nat.le_of_ble_eq_true rfl, Nat.le_of_ble_eq_true rfl⟩ ?_
      refine q_aload_n C 0 dX7_middle_31 rfl rfl ?_
      refine s_getr (a := 103) C lf7_57 ltp_0 kd_0 rfl dX7_middle_32 ?_
      refine q_aload_n C 0 dX7_middle_35 rfl rfl ?_
      refine s_getr (a := 8) C lf7_33 ltp_0 kd_0 rfl dX7_middle_36 ?_
      obtain ⟨r4, hc3, h⟩ := ob1_e h
      refine q_callVi0 C ltp_103 (qmem_o kd_103 (Nat.le_of_ble_eq_true rfl)) rfl rfl (kX2_farthest n 103 (tyR_103) 8 (tyT_8) S2 hc3) lm7_253 rfl (rest := []) rfl (Nat.le_of_ble_eq_true rfl) dX7_middle_39 ⟨rfl, rfl, Nat.le_of_ble_eq_true rfl, Nat.le_of_ble_eq_true rfl, Nat.le_of_ble_eq_true rfl, Nat.le_of_ble_eq_true rfl⟩ ?_
      refine q_istore C (lv' := [(4, .int r4), (0, .ref (qa g 0)), (1, .int v1), (2, .int v2), (3, .int v3)]) dX7_middle_42 (by decide) rfl ?_
      refine q_norm [1, 2, 3, 4, 0] rfl ?_
      refine q_iload C 4 dX7_middle_44 rfl ?_
      refine q_sipush (v := (-999)) C dX7_middle_46 (by decide) ?_
      refine q_icmp_ne (tgt := 56) C h dX7_middle_49 (by decide) (fun h => ?_) (fun h => ?_)
      · refine q_iload_n C 1 dX7_middle_56 rfl rfl ?_
        refine q_sipush (v := (-999)) C dX7_middle_57 (by decide) ?_
        refine q_icmp_eq (tgt := 69) C h dX7_middle_60 (by decide) (fun h => ?_) (fun h => ?_)
        · refine q_norm [0, 3, 4] rfl ?_
          exact W7_middle_69 C hr n (B7_middle_8 n n9) ih v3 r4 S2 h
        · refine q_iload C 4 dX7_middle_63 rfl ?_
          refine q_iload_n C 2 dX7_middle_65 rfl rfl ?_
          refine q_icmp_ge (tgt := 74) C h dX7_middle_66 (by decide) (fun h => ?_) (fun h => ?_)
          · refine q_norm [0, 1, 2, 3] rfl ?_
            exact W7_middle_74 C hr n (B7_middle_8 n n9) ih v1 v2 v3 S2 h
          · refine q_norm [0, 3, 4] rfl ?_
            exact W7_middle_69 C hr n (B7_middle_8 n n9) ih v3 r4 S2 h
      · refine q_sipush (v := (-999)) C dX7_middle_52 (by decide) ?_
        obtain ⟨rfl, rfl⟩ := Prod.mk.inj (Option.some.inj h)
        exact q_iret C hr (Nat.le_refl 0) (Nat.le_refl 0) dX7_middle_55
def F7_middle (n : Nat) (S : qSt) : Option (Int32 × qSt) := B7_middle_8 n n (-999) 0 0 S
set_option maxRecDepth 100000 in
set_option maxHeartbeats 4000000 in
theorem kX7_middle {l : Launch} {g : qG} (n : Nat) (S : qSt) {r : Int32} {S2 : qSt} (h : F7_middle n S = some (r, S2)) : Met l yX7_middle [.code yX7_middle cX7_middle 5 (some .int)] rmX7_middle (qPc g NL qT (qmem g S) [.ref (qa g 0)]) (qQi g NL qT (qmem g S2) r) 0 0 (qA g) := by
  refine q_met (by decide) (Nat.le_of_ble_eq_true rfl) (fun p e s m args below meth c C hr _ => ?_)
  have C : qC g cX7_middle RX7 5 p s m meth c := C
  show qR g NL qT 5 p l e rmX7_middle s m args below meth c 0 0 (MQ below (qQi g NL qT (qmem g S2) r) args s 0 0 (qA g)) (qmem g S) 0 [(0, .ref (qa g 0))] []
  unfold F7_middle at h
  refine q_sipush (v := (-999)) C dX7_middle_0 (by decide) ?_
  refine q_istore_n C (lv' := [(1, .int (-999)), (0, .ref (qa g 0))]) dX7_middle_3 rfl (by decide) rfl ?_
  refine q_norm [1, 0] rfl ?_
  refine q_iconst (v := 0) C dX7_middle_4 (by decide) ?_
  refine q_istore_n C (lv' := [(2, .int 0), (0, .ref (qa g 0)), (1, .int (-999))]) dX7_middle_5 rfl (by decide) rfl ?_
  refine q_norm [1, 2, 0] rfl ?_
  refine q_iconst (v := 0) C dX7_middle_6 (by decide) ?_
  refine q_istore_n C (lv' := [(3, .int 0), (0, .ref (qa g 0)), (1, .int (-999)), (2, .int 0)]) dX7_middle_7 rfl (by decide) rfl ?_
  refine q_norm [1, 2, 3, 0] rfl ?_
  exact W7_middle_8 C hr n n (-999) 0 0 S h
/-! ClosedStreets.leadingGroups -/
abbrev rmX7_leadingGroups : Room := { frames := 0, cells := 0, slots := 0, locals := 0 }
def B7_leadingGroups_5 (n : Nat) : Nat → Int32 → Int64 → Int32 → qSt → Option Int64
  | 0, _, _, _, _ => none
  | n9 + 1, v2, w3, v5, S => if v2 ≤ v5 then (some w3) else ((B7_leadingGroups_5 n n9) v2 (w3 / 100000) (v5 + 1) S)
set_option maxRecDepth 100000 in
set_option maxHeartbeats 4000000 in
theorem W7_leadingGroups_5 {r : Int64} (C : qC g cX7_leadingGroups RX7 6 p s m meth c) (hr : meth.sig.returnType = (some .long)) (n : Nat) : ∀ (n9 : Nat) (v2 : Int32) (w3 : Int64) (v5 : Int32) (S : qSt), B7_leadingGroups_5 n n9 v2 w3 v5 S = some r → qR g NL qT 6 p l e rmX7_leadingGroups s m args below meth c 0 0 (MQ below (qQl g NL qT (qmem g S) r) args s 0 0 (qA g)) (qmem g S) 5 [(2, .int v2), (3, .long w3), (5, .int v5)] [] := by
  intro n9
  induction n9 with
  | zero =>
    intro v2 w3 v5 S h
    have h9 : (none : Option Int64) = some r := h
    cases h9
  | succ n9 ih =>
    intro v2 w3 v5 S h
    rw [B7_leadingGroups_5] at h
    refine q_iload C 2 dX7_leadingGroups_5 rfl ?_
    refine q_iload_n C 0 dX7_leadingGroups_7 rfl rfl ?_
    refine q_icmp_ge (tgt := 23) C h dX7_leadingGroups_8 (by decide) (fun h => ?_) (fun h => ?_)
    · refine q_lload_n C 1 dX7_leadingGroups_23 rfl rfl ?_
      obtain rfl := Option.some.inj h
      exact q_lret C hr (Nat.le_refl 0) (Nat.le_refl 0) dX7_leadingGroups_24
    · refine q_lload_n C 1 dX7_leadingGroups_11 rfl rfl ?_
      refine q_ldc2 (v := 100000) C lc7_264 dX7_leadingGroups_12 ?_
      refine q_ldiv C dX7_leadingGroups_15 (by decide) ?_
      refine q_lstore_n C (lv' := [(3, .long (w3 / 100000)), (2, .int v2), (5, .int v5)]) dX7_leadingGroups_16 rfl (by decide) rfl ?_
      refine q_norm [1, 0, 2] rfl ?_
      refine q_iinc C 2 (v := v5 + 1) (lv' := [(5, .int (v5 + 1)), (2, .int v2), (3, .long (w3 / 100000))]) dX7_leadingGroups_17 rfl rfl (by decide) rfl ?_
      refine q_norm [1, 2, 0] rfl ?_
      refine q_goto (tgt := 5) C dX7_leadingGroups_20 (by decide) ?_
      exact ih v2 (w3 / 100000) (v5 + 1) S h
def F7_leadingGroups (n : Nat) (w0 : Int64) (v2 : Int32) (S : qSt) : Option Int64 := B7_leadingGroups_5 n n v2 w0 0 S
set_option maxRecDepth 100000 in
set_option maxHeartbeats 4000000 in
theorem kX7_leadingGroups {l : Launch} {g : qG} (n : Nat) (w0 : Int64) (v2 : Int32) (S : qSt) {r : Int64} (h : F7_leadingGroups n w0 v2 S = some r) : Met l yX7_leadingGroups [.code yX7_leadingGroups cX7_leadingGroups 6 (some .long)] rmX7_leadingGroups (qPc g NL qT (qmem g S) [.long w0, .int v2]) (qQl g NL qT (qmem g S) r) 0 0 (qA g) := by
  refine q_met (by decide) (Nat.le_of_ble_eq_true rfl) (fun p e s m args below meth c C hr _ => ?_)
  have C : qC g cX7_leadingGroups RX7 6 p s m meth c := C
  show qR g NL qT 6 p l e rmX7_leadingGroups s m args below meth c 0 0 (MQ below (qQl g NL qT (qmem g S) r) args s 0 0 (qA g)) (qmem g S) 0 [(0, .long w0), (2, .int v2)] []
  unfold F7_leadingGroups at h
  refine q_lload_n C 0 dX7_leadingGroups_0 rfl rfl ?_
  refine q_lstore_n C (lv' := [(3, .long w0), (0, .long w0), (2, .int v2)]) dX7_leadingGroups_1 rfl (by decide) rfl ?_
  refine q_norm [1, 2, 0] rfl ?_
  refine q_iconst (v := 0) C dX7_leadingGroups_2 (by decide) ?_
  refine q_istore C (lv' := [(5, .int 0), (0, .long w0), (2, .int v2), (3, .long w0)]) dX7_leadingGroups_3 (by decide) rfl ?_
  refine q_norm [1, 2, 3, 0] rfl ?_
  refine q_norm [1, 2, 3] rfl ?_
  exact W7_leadingGroups_5 C hr n n v2 w0 0 S h
/-! ClosedStreets.isAtMost -/
abbrev rmX7_isAtMost : Room := { frames := 0, cells := 0, slots := 0, locals := 0 }
def F7_isAtMost (v0 : Int32) (v1 : Int32) (S : qSt) : Int32 := if v0 = (-999) then (0) else (if v1 < v0 then (0) else (1))
set_option maxRecDepth 100000 in
set_option maxHeartbeats 4000000 in
theorem kX7_isAtMost {l : Launch} {g : qG} (v0 : Int32) (v1 : Int32) (S : qSt) : Met l yX7_isAtMost [.code yX7_isAtMost cX7_isAtMost 2 (some .boolean)] rmX7_isAtMost (qPc g NL qT (qmem g S) [.int v0, .int v1]) (qQi g NL qT (qmem g S) (F7_isAtMost v0 v1 S)) 0 0 (qA g) := by
  obtain ⟨r, h⟩ : ∃ r, F7_isAtMost v0 v1 S = r := ⟨_, rfl⟩
  rw [h]
  refine q_met (by decide) (Nat.le_of_ble_eq_true rfl) (fun p e s m args below meth c C hr _ => ?_)
  have C : qC g cX7_isAtMost RX7 2 p s m meth c := C
  show qR g NL qT 2 p l e rmX7_isAtMost s m args below meth c 0 0 (MQ below (qQi g NL qT (qmem g S) r) args s 0 0 (qA g)) (qmem g S) 0 [(0, .int v0), (1, .int v1)] []
  unfold F7_isAtMost at h
  refine q_iload_n C 0 dX7_isAtMost_0 rfl rfl ?_
  refine q_sipush (v := (-999)) C dX7_isAtMost_1 (by decide) ?_
  refine q_icmp_eq (tgt := 16) C h dX7_isAtMost_4 (by decide) (fun h => ?_) (fun h => ?_)
  · refine q_iconst (v := 0) C dX7_isAtMost_16 (by decide) ?_
    subst h
    exact q_zret C hr (by decide) (Nat.le_refl 0) (Nat.le_refl 0) dX7_isAtMost_17
  · refine q_iload_n C 0 dX7_isAtMost_7 rfl rfl ?_
    refine q_iload_n C 1 dX7_isAtMost_8 rfl rfl ?_
    refine q_icmp_gt (tgt := 16) C h dX7_isAtMost_9 (by decide) (fun h => ?_) (fun h => ?_)
    · refine q_iconst (v := 0) C dX7_isAtMost_16 (by decide) ?_
      subst h
      exact q_zret C hr (by decide) (Nat.le_refl 0) (Nat.le_refl 0) dX7_isAtMost_17
    · refine q_iconst (v := 1) C dX7_isAtMost_12 (by decide) ?_
      refine q_goto (tgt := 17) C dX7_isAtMost_13 (by decide) ?_
      subst h
      exact q_zret C hr (by decide) (Nat.le_refl 0) (Nat.le_refl 0) dX7_isAtMost_17
/-! ClosedStreets.hasTrialWayOf -/
abbrev rmX7_hasTrialWayOf : Room := { frames := 4, cells := 0, slots := 0, locals := 160 }
def F7_hasTrialWayOf (n : Nat) (v1 : Int32) (S : qSt) : Option (Int32 × qSt) := ob1 (F2_find n 107 13 S) fun S2 => if (F7_isAtMost (F2_streets 107 S2) v1 S2) &&& 1 = (F7_isAtMost (F2_streets 107 S2) v1 S2) then some (F7_isAtMost (F2_streets 107 S2) v1 S2, S2) else none
set_option maxRecDepth 100000 in
set_option maxHeartbeats 4000000 in
theorem kX7_hasTrialWayOf {l : Launch} {g : qG} (n : Nat) (v1 : Int32) (S : qSt) {r : Int32} {S2 : qSt} (h : F7_hasTrialWayOf n v1 S = some (r, S2)) : Met l yX7_hasTrialWayOf [.code yX7_hasTrialWayOf cX7_hasTrialWayOf 2 (some .boolean)] rmX7_hasTrialWayOf (qPc g NL qT (qmem g S) [.ref (qa g 0), .int v1]) (qQi g NL qT (qmem g S2) r) 0 0 (qA g) := by
  refine q_met (by decide) (Nat.le_of_ble_eq_true rfl) (fun p e s m args below meth c C hr _ => ?_)
  have C : qC g cX7_hasTrialWayOf RX7 2 p s m meth c := C
  show qR g NL qT 2 p l e rmX7_hasTrialWayOf s m args below meth c 0 0 (MQ below (qQi g NL qT (qmem g S2) r) args s 0 0 (qA g)) (qmem g S) 0 [(0, .ref (qa g 0)), (1, .int v1)] []
  unfold F7_hasTrialWayOf at h
  refine q_aload_n C 0 dX7_hasTrialWayOf_0 rfl rfl ?_
  refine s_getr (a := 107) C lf7_61 ltp_0 kd_0 rfl dX7_hasTrialWayOf_1 ?_
  refine q_aload_n C 0 dX7_hasTrialWayOf_4 rfl rfl ?_
  refine s_getr (a := 13) C lf7_37 ltp_0 kd_0 rfl dX7_hasTrialWayOf_5 ?_
  obtain ⟨S2, hc1, h⟩ := ob1_e h
  refine q_callVv0 C ltp_107 (qmem_o kd_107 (Nat.le_of_ble_eq_true rfl)) rfl rfl (kX2_find n 107 (tyR_107) 13 (tyT_13) S hc1) lm7_123 rfl (rest := []) rfl (Nat.le_of_ble_eq_true rfl) dX7_hasTrialWayOf_8 ⟨rfl, rfl, Nat.le_of_ble_eq_true rfl, Nat.le_of_ble_eq_true rfl, Nat.le_of_ble_eq_true rfl, Nat.le_of_ble_eq_true rfl⟩ ?_
  refine q_aload_n C 0 dX7_hasTrialWayOf_11 rfl rfl ?_
  refine s_getr (a := 107) C lf7_61 ltp_0 kd_0 rfl dX7_hasTrialWayOf_12 ?_
  refine q_callVi0 C ltp_107 (qmem_o kd_107 (Nat.le_of_ble_eq_true rfl)) rfl rfl (kX2_streets 107 (tyR_107) S2) lm7_126 rfl (rest := []) rfl (Nat.le_of_ble_eq_true rfl) dX7_hasTrialWayOf_15 ⟨rfl, rfl, Nat.le_of_ble_eq_true rfl, Nat.le_of_ble_eq_true rfl, Nat.le_of_ble_eq_true rfl, Nat.le_of_ble_eq_true rfl⟩ ?_
  refine q_iload_n C 1 dX7_hasTrialWayOf_18 rfl rfl ?_
  refine q_callSi0 C (kX7_isAtMost (F2_streets 107 S2) v1 S2) lm7_332 rfl (rest := []) rfl (Nat.le_of_ble_eq_true rfl) dX7_hasTrialWayOf_19 ⟨rfl, rfl, Nat.le_of_ble_eq_true rfl, Nat.le_of_ble_eq_true rfl, Nat.le_of_ble_eq_true rfl, Nat.le_of_ble_eq_true rfl⟩ ?_
  obtain ⟨hz3, h⟩ := q_ifp h
  obtain ⟨rfl, rfl⟩ := Prod.mk.inj (Option.some.inj h)
  exact q_zret C hr hz3 (Nat.le_refl 0) (Nat.le_refl 0) dX7_hasTrialWayOf_22
/-! ClosedStreets.isNearInTrial -/
abbrev rmX7_isNearInTrial : Room := { frames := 3, cells := 0, slots := 0, locals := 120 }
def F7_isNearInTrial (n : Nat) (v1 : Int32) (v2 : Int32) (S : qSt) : Option (Int32 × qSt) := ob1 (F2_weigh n 107 13 (S 13 2) S) fun S2 => if (F5_hasCrossing 13 v1 S2) = 0 then (some (0, S2)) else (ob1 (F2_lengthFrom 107 v1 S2) fun r4 => if (F7_isAtMost r4 v2 S2) = 0 then (some (0, S2)) else (some (1, S2)))
set_option maxRecDepth 100000 in
set_option maxHeartbeats 4000000 in
theorem kX7_isNearInTrial {l : Launch} {g : qG} (n : Nat) (v1 : Int32) (v2 : Int32) (S : qSt) {r : Int32} {S2 : qSt} (h : F7_isNearInTrial n v1 v2 S = some (r, S2)) : Met l yX7_isNearInTrial [.code yX7_isNearInTrial cX7_isNearInTrial 3 (some .boolean)] rmX7_isNearInTrial (qPc g NL qT (qmem g S) [.ref (qa g 0), .int v1, .int v2]) (qQi g NL qT (qmem g S2) r) 0 0 (qA g) := by
  refine q_met (by decide) (Nat.le_of_ble_eq_true rfl) (fun p e s m args below meth c C hr _ => ?_)
  have C : qC g cX7_isNearInTrial RX7 3 p s m meth c := C
  show qR g NL qT 3 p l e rmX7_isNearInTrial s m args below meth c 0 0 (MQ below (qQi g NL qT (qmem g S2) r) args s 0 0 (qA g)) (qmem g S) 0 [(0, .ref (qa g 0)), (1, .int v1), (2, .int v2)] []
  unfold F7_isNearInTrial at h
  refine q_aload_n C 0 dX7_isNearInTrial_0 rfl rfl ?_
  refine s_getr (a := 107) C lf7_61 ltp_0 kd_0 rfl dX7_isNearInTrial_1 ?_
  refine q_aload_n C 0 dX7_isNearInTrial_4 rfl rfl ?_
  refine s_getr (a := 13) C lf7_37 ltp_0 kd_0 rfl dX7_isNearInTrial_5 ?_
  refine q_aload_n C 0 dX7_isNearInTrial_8 rfl rfl ?_
  refine s_getr (a := 13) C lf7_37 ltp_0 kd_0 rfl dX7_isNearInTrial_9 ?_
  refine s_geti C lf7_113 ltp_13 kd_13 dX7_isNearInTrial_12 ?_
  obtain ⟨S2, hc1, h⟩ := ob1_e h
  refine q_callVv0 C ltp_107 (qmem_o kd_107 (Nat.le_of_ble_eq_true rfl)) rfl rfl (kX2_weigh n 107 (tyR_107) 13 (tyT_13) (S 13 2) S hc1) lm7_163 rfl (rest := []) rfl (Nat.le_of_ble_eq_true rfl) dX7_isNearInTrial_15 ⟨rfl, rfl, Nat.le_of_ble_eq_true rfl, Nat.le_of_ble_eq_true rfl, Nat.le_of_ble_eq_true rfl, Nat.le_of_ble_eq_true rfl⟩ ?_
  refine q_aload_n C 0 dX7_isNearInTrial_18 rfl rfl ?_
  refine s_getr (a := 13) C lf7_37 ltp_0 kd_0 rfl dX7_isNearInTrial_19 ?_
  refine q_iload_n C 1 dX7_isNearInTrial_22 rfl rfl ?_
  refine q_callVi0 C ltp_13 (qmem_o kd_13 (Nat.le_of_ble_eq_true rfl)) rfl rfl (kX5_hasCrossing 13 (tyT_13) v1 S2) lm7_306 rfl (rest := []) rfl (Nat.le_of_ble_eq_true rfl) dX7_isNearInTrial_23 ⟨rfl, rfl, Nat.le_of_ble_eq_true rfl, Nat.le_of_ble_eq_true rfl, Nat.le_of_ble_eq_true rfl, Nat.le_of_ble_eq_true rfl⟩ ?_
  refine q_if_eq (tgt := 48) C h dX7_isNearInTrial_26 (by decide) (fun h => ?_) (fun h => ?_)
  · refine q_iconst (v := 0) C dX7_isNearInTrial_48 (by decide) ?_
    obtain ⟨rfl, rfl⟩ := Prod.mk.inj (Option.some.inj h)
    exact q_zret C hr (by decide) (Nat.le_refl 0) (Nat.le_refl 0) dX7_isNearInTrial_49
  · refine q_aload_n C 0 dX7_isNearInTrial_29 rfl rfl ?_
    refine s_getr (a := 107) C lf7_61 ltp_0 kd_0 rfl dX7_isNearInTrial_30 ?_
    refine q_iload_n C 1 dX7_isNearInTrial_33 rfl rfl ?_
    obtain ⟨r4, hc3, h⟩ := ob1_e h
    refine q_callVi0 C ltp_107 (qmem_o kd_107 (Nat.le_of_ble_eq_true rfl)) rfl rfl (kX2_lengthFrom 107 (tyR_107) v1 S2 hc3) lm7_167 rfl (rest := []) rfl (Nat.le_of_ble_eq_true rfl) dX7_isNearInTrial_34 ⟨rfl, rfl, Nat.le_of_ble_eq_true rfl, Nat.le_of_ble_eq_true rfl, Nat.le_of_ble_eq_true rfl, Nat.le_of_ble_eq_true rfl⟩ ?_
    refine q_iload_n C 2 dX7_isNearInTrial_37 rfl rfl ?_
    refine q_callSi0 C (kX7_isAtMost r4 v2 S2) lm7_332 rfl (rest := []) rfl (Nat.le_of_ble_eq_true rfl) dX7_isNearInTrial_38 ⟨rfl, rfl, Nat.le_of_ble_eq_true rfl, Nat.le_of_ble_eq_true rfl, Nat.le_of_ble_eq_true rfl, Nat.le_of_ble_eq_true rfl⟩ ?_
    refine q_if_eq (tgt := 48) C h dX7_isNearInTrial_41 (by decide) (fun h => ?_) (fun h => ?_)
    · refine q_iconst (v := 0) C dX7_isNearInTrial_48 (by decide) ?_
      obtain ⟨rfl, rfl⟩ := Prod.mk.inj (Option.some.inj h)
      exact q_zret C hr (by decide) (Nat.le_refl 0) (Nat.le_refl 0) dX7_isNearInTrial_49
    · refine q_iconst (v := 1) C dX7_isNearInTrial_44 (by decide) ?_
      refine q_goto (tgt := 49) C dX7_isNearInTrial_45 (by decide) ?_
      obtain ⟨rfl, rfl⟩ := Prod.mk.inj (Option.some.inj h)
      exact q_zret C hr (by decide) (Nat.le_refl 0) (Nat.le_refl 0) dX7_isNearInTrial_49
/-! ClosedStreets.scriptCommandOnTrial -/
abbrev rmX7_scriptCommandOnTrial : Room := { frames := 5, cells := 0, slots := 0, locals := 200 }
def B7_scriptCommandOnTrial_181 (n : Nat) (t1 : Int32) (t2 : Int32) (S : qSt) : Option (Int32 × qSt) := ob2 (F5_shut 13 t1 t2 S) fun r23 S24 => if ¬ r23 = 0 then (some (0, S24)) else (some (1, S24))
set_option maxRecDepth 100000 in
set_option maxHeartbeats 4000000 in
theorem W7_scriptCommandOnTrial_181 {r : Int32} {S2 : qSt} (C : qC g cX7_scriptCommandOnTrial RX7 6 p s m meth c) (hr : meth.sig.returnType = (some .boolean)) (n : Nat) (t1 : Int32) (t2 : Int32) (S : qSt) (h : B7_scriptCommandOnTrial_181 n t1 t2 S = some (r, S2)) : qR g NL qT 6 p l e rmX7_scriptCommandOnTrial s m args below meth c 0 0 (MQ below (qQi g NL qT (qmem g S2) r) args s 0 0 (qA g)) (qmem g S) 181 [] [.int t2, .int t1, .ref (qa g 13)] := by
  unfold B7_scriptCommandOnTrial_181 at h
  obtain ⟨r23, S24, hc22, h⟩ := ob2_e h
  refine q_callVi0 C ltp_13 (qmem_o kd_13 (Nat.le_of_ble_eq_true rfl)) rfl rfl (kX5_shut 13 (tyT_13) t1 t2 S hc22) lm7_207 rfl (rest := []) rfl (Nat.le_of_ble_eq_true rfl) dX7_scriptCommandOnTrial_181 ⟨rfl, rfl, Nat.le_of_ble_eq_true rfl, Nat.le_of_ble_eq_true rfl, Nat.le_of_ble_eq_true rfl, Nat.le_of_ble_eq_true rfl⟩ ?_
  refine q_if_ne (tgt := 191) C h dX7_scriptCommandOnTrial_184 (by decide) (fun h => ?_) (fun h => ?_)
  · refine q_iconst (v := 0) C dX7_scriptCommandOnTrial_191 (by decide) ?_
    obtain ⟨rfl, rfl⟩ := Prod.mk.inj (Option.some.inj h)
    exact q_zret C hr (by decide) (Nat.le_refl 0) (Nat.le_refl 0) dX7_scriptCommandOnTrial_192
  · refine q_iconst (v := 1) C dX7_scriptCommandOnTrial_187 (by decide) ?_
    refine q_goto (tgt := 192) C dX7_scriptCommandOnTrial_188 (by decide) ?_
    obtain ⟨rfl, rfl⟩ := Prod.mk.inj (Option.some.inj h)
    exact q_zret C hr (by decide) (Nat.le_refl 0) (Nat.le_refl 0) dX7_scriptCommandOnTrial_192
def B7_scriptCommandOnTrial_163 (n : Nat) (v4 : Int32) (v5 : Int32) (S : qSt) : Option (Int32 × qSt) := if ¬ v5 = 10 then (B7_scriptCommandOnTrial_181 n v4 0 S) else (B7_scriptCommandOnTrial_181 n v4 1 S)
set_option maxRecDepth 100000 in
set_option maxHeartbeats 4000000 in
theorem W7_scriptCommandOnTrial_163 {r : Int32} {S2 : qSt} (C : qC g cX7_scriptCommandOnTrial RX7 6 p s m meth c) (hr : meth.sig.returnType = (some .boolean)) (n : Nat) (v4 : Int32) (v5 : Int32) (S : qSt) (h : B7_scriptCommandOnTrial_163 n v4 v5 S = some (r, S2)) : qR g NL qT 6 p l e rmX7_scriptCommandOnTrial s m args below meth c 0 0 (MQ below (qQi g NL qT (qmem g S2) r) args s 0 0 (qA g)) (qmem g S) 163 [(0, .ref (qa g 0)), (4, .int v4), (5, .int v5)] [] := by
  unfold B7_scriptCommandOnTrial_163 at h
  refine q_aload_n C 0 dX7_scriptCommandOnTrial_163 rfl rfl ?_
  refine s_getr (a := 13) C lf7_37 ltp_0 kd_0 rfl dX7_scriptCommandOnTrial_164 ?_
  refine q_iload C 1 dX7_scriptCommandOnTrial_167 rfl ?_
  refine q_iload C 2 dX7_scriptCommandOnTrial_169 rfl ?_
  refine q_bipush (v := 10) C dX7_scriptCommandOnTrial_171 (by decide) ?_
  refine q_icmp_ne (tgt := 180) C h dX7_scriptCommandOnTrial_173 (by decide) (fun h => ?_) (fun h => ?_)
  · refine q_iconst (v := 0) C dX7_scriptCommandOnTrial_180 (by decide) ?_
    refine q_norm [] rfl ?_
    exact W7_scriptCommandOnTrial_181 C hr n v4 0 S h
  · refine q_iconst (v := 1) C dX7_scriptCommandOnTrial_176 (by decide) ?_
    refine q_goto (tgt := 181) C dX7_scriptCommandOnTrial_177 (by decide) ?_
    refine q_norm [] rfl ?_
    exact W7_scriptCommandOnTrial_181 C hr n v4 1 S h
def F7_scriptCommandOnTrial (n : Nat) (v1 : Int32) (S : qSt) : Option (Int32 × qSt) := obs ((v1 / 1000) - (v1 / 1000) / 10 * 10) fun x1 => obs ((v1 / 100) - (v1 / 100) / 10 * 10) fun x2 => obs ((v1 / 100) - (v1 / 100) / 100 * 100) fun x3 => if (v1 / 10000) = 1 then (ob2 (F5_join n 13 x1 x2 (v1 - v1 / 100 * 100) S) fun r14 S15 => if ¬ r14 = 0 then (some (0, S15)) else (some (1, S15))) else if (v1 / 10000) = 2 then (if ¬ (v1 - v1 / 100 * 100) = 0 then (some (0, S)) else (ob2 (F5_takeAway n 13 x3 S) fun r17 S18 => if ¬ r17 = 0 then (some (0, S18)) else (some (1, S18)))) else if (v1 / 10000) = 3 then (ob2 (F5_stretch 13 x3 (v1 - v1 / 100 * 100) S) fun r20 S21 => if ¬ r20 = 0 then (some (0, S21)) else (some (1, S21))) else if (v1 / 10000) = 4 then (if (v1 - v1 / 100 * 100) = 0 then (B7_scriptCommandOnTrial_163 n x3 (v1 - v1 / 100 * 100) S) else (if ¬ (v1 - v1 / 100 * 100) = 10 then (some (0, S)) else (B7_scriptCommandOnTrial_163 n x3 (v1 - v1 / 100 * 100) S))) else if (v1 / 10000) = 5 then (if ¬ (v1 - v1 / 100 * 100) = 0 then (some (0, S)) else (ob2 (F5_direct 13 x1 x2 S) fun r26 S27 => if ¬ r26 = 0 then (some (0, S27)) else (some (1, S27)))) else if (v1 / 10000) = 6 then (if ¬ x1 = 0 then (some (0, S)) else (ob2 (F7_bestLengthIn n 13 S) fun r29 S30 => if (F7_isAtMost r29 (v1 - v1 / 1000 * 1000) S30) = 0 then (some (0, S30)) else (some (1, S30)))) else if (v1 / 10000) = 7 then (if ¬ (v1 - v1 / 100 * 100) = 0 then (some (0, S)) else (ob2 (F7_isOnBestWayOfTrial n x3 S) fun r32 S33 => if r32 = 0 then (some (0, S33)) else (some (1, S33)))) else if (v1 / 10000) = 8 then (if ¬ x3 = 0 then (some (0, S)) else (if 10 ≤ (v1 - v1 / 100 * 100) then (some (0, S)) else (ob2 (F7_hasTrialWayOf n (v1 - v1 / 100 * 100) S) fun r35 S36 => if r35 = 0 then (some (0, S36)) else (some (1, S36))))) else if (v1 / 10000) = 9 then (if ¬ x2 = 0 then (some (0, S)) else (ob2 (F7_isNearInTrial n x1 (v1 - v1 / 100 * 100) S) fun r38 S39 => if r38 = 0 then (some (0, S39)) else (some (1, S39)))) else (some (0, S))
set_option maxRecDepth 100000 in
set_option maxHeartbeats 4000000 in
theorem kX7_scriptCommandOnTrial {l : Launch} {g : qG} (n : Nat) (v1 : Int32) (S : qSt) {r : Int32} {S2 : qSt} (h : F7_scriptCommandOnTrial n v1 S = some (r, S2)) : Met l yX7_scriptCommandOnTrial [.code yX7_scriptCommandOnTrial cX7_scriptCommandOnTrial 6 (some .boolean)] rmX7_scriptCommandOnTrial (qPc g NL qT (qmem g S) [.ref (qa g 0), .int v1]) (qQi g NL qT (qmem g S2) r) 0 0 (qA g) := by
  refine q_met (by decide) (Nat.le_of_ble_eq_true rfl) (fun p e s m args below meth c C hr _ => ?_)
  have C : qC g cX7_scriptCommandOnTrial RX7 6 p s m meth c := C
  show qR g NL qT 6 p l e rmX7_scriptCommandOnTrial s m args below meth c 0 0 (MQ below (qQi g NL qT (qmem g S2) r) args s 0 0 (qA g)) (qmem g S) 0 [(0, .ref (qa g 0)), (1, .int v1)] []
  unfold F7_scriptCommandOnTrial at h
  refine q_iload_n C 1 dX7_scriptCommandOnTrial_0 rfl rfl ?_
  refine q_sipush (v := 1000) C dX7_scriptCommandOnTrial_1 (by decide) ?_
  refine q_idiv C dX7_scriptCommandOnTrial_4 (by decide) ?_
  refine q_bipush (v := 10) C dX7_scriptCommandOnTrial_5 (by decide) ?_
  refine q_irem C dX7_scriptCommandOnTrial_7 (by decide) ?_
  obtain ⟨x1, hx1, h⟩ := obs_e h
  rw [← hx1]
  refine q_istore_n C (lv' := [(2, .int x1), (0, .ref (qa g 0)), (1, .int v1)]) dX7_scriptCommandOnTrial_8 rfl (by decide) rfl ?_
  refine q_norm [1, 2, 0] rfl ?_
  refine q_iload_n C 1 dX7_scriptCommandOnTrial_9 rfl rfl ?_
  refine q_bipush (v := 100) C dX7_scriptCommandOnTrial_10 (by decide) ?_
  refine q_idiv C dX7_scriptCommandOnTrial_12 (by decide) ?_
  refine q_bipush (v := 10) C dX7_scriptCommandOnTrial_13 (by decide) ?_
  refine q_irem C dX7_scriptCommandOnTrial_15 (by decide) ?_
  obtain ⟨x2, hx2, h⟩ := obs_e h
  rw [← hx2]
  refine q_istore_n C (lv' := [(3, .int x2), (0, .ref (qa g 0)), (1, .int v1), (2, .int x1)]) dX7_scriptCommandOnTrial_16 rfl (by decide) rfl ?_
  refine q_norm [1, 2, 3, 0] rfl ?_
  refine q_iload_n C 1 dX7_scriptCommandOnTrial_17 rfl rfl ?_
  refine q_bipush (v := 100) C dX7_scriptCommandOnTrial_18 (by decide) ?_
  refine q_idiv C dX7_scriptCommandOnTrial_20 (by decide) ?_
  refine q_bipush (v := 100) C dX7_scriptCommandOnTrial_21 (by decide) ?_
  refine q_irem C dX7_scriptCommandOnTrial_23 (by decide) ?_
  obtain ⟨x3, hx3, h⟩ := obs_e h
  rw [← hx3]
  refine q_istore C (lv' := [(4, .int x3), (0, .ref (qa g 0)), (1, .int v1), (2, .int x1), (3, .int x2)]) dX7_scriptCommandOnTrial_24 (by decide) rfl ?_
  refine q_norm [1, 2, 3, 4, 0] rfl ?_
  refine q_iload_n C 1 dX7_scriptCommandOnTrial_26 rfl rfl ?_
  refine q_bipush (v := 100) C dX7_scriptCommandOnTrial_27 (by decide) ?_
  refine q_irem C dX7_scriptCommandOnTrial_29 (by decide) ?_
  refine q_istore C (lv' := [(5, .int (v1 - v1 / 100 * 100)), (0, .ref (qa g 0)), (1, .int v1), (2, .int x1), (3, .int x2), (4, .int x3)]) dX7_scriptCommandOnTrial_30 (by decide) rfl ?_
  refine q_norm [1, 2, 3, 4, 5, 0] rfl ?_
  refine q_iload_n C 1 dX7_scriptCommandOnTrial_32 rfl rfl ?_
  refine q_sipush (v := 10000) C dX7_scriptCommandOnTrial_33 (by decide) ?_
  refine q_idiv C dX7_scriptCommandOnTrial_36 (by decide) ?_
  rcases q_ite h with ⟨q4, h⟩ | ⟨q4, h⟩
  · refine q_tableIn (off := 51) (tgt := 88) C dX7_scriptCommandOnTrial_37 (by rw [q4]; decide) (by rw [q4]; decide) (by rw [q4]; rfl) (by decide) ?_
    refine q_aload_n C 0 dX7_scriptCommandOnTrial_88 rfl rfl ?_
    refine s_getr (a := 13) C lf7_37 ltp_0 kd_0 rfl dX7_scriptCommandOnTrial_89 ?_
    refine q_iload_n C 2 dX7_scriptCommandOnTrial_92 rfl rfl ?_
    refine q_iload_n C 3 dX7_scriptCommandOnTrial_93 rfl rfl ?_
    refine q_iload C 5 dX7_scriptCommandOnTrial_94 rfl ?_
    obtain ⟨r14, S15, hc13, h⟩ := ob2_e h
    refine q_callVi0 C ltp_13 (qmem_o kd_13 (Nat.le_of_ble_eq_true rfl)) rfl rfl (kX5_join n 13 (tyT_13) x1 x2 (v1 - v1 / 100 * 100) S hc13) lm7_194 rfl (rest := []) rfl (Nat.le_of_ble_eq_true rfl) dX7_scriptCommandOnTrial_96 ⟨rfl, rfl, Nat.le_of_ble_eq_true rfl, Nat.le_of_ble_eq_true rfl, Nat.le_of_ble_eq_true rfl, Nat.le_of_ble_eq_true rfl⟩ ?_
    refine q_if_ne (tgt := 106) C h dX7_scriptCommandOnTrial_99 (by decide) (fun h => ?_) (fun h => ?_)
    · refine q_iconst (v := 0) C dX7_scriptCommandOnTrial_106 (by decide) ?_
      obtain ⟨rfl, rfl⟩ := Prod.mk.inj (Option.some.inj h)
      exact q_zret C hr (by decide) (Nat.le_refl 0) (Nat.le_refl 0) dX7_scriptCommandOnTrial_107
    · refine q_iconst (v := 1) C dX7_scriptCommandOnTrial_102 (by decide) ?_
      refine q_goto (tgt := 107) C dX7_scriptCommandOnTrial_103 (by decide) ?_
      obtain ⟨rfl, rfl⟩ := Prod.mk.inj (Option.some.inj h)
      exact q_zret C hr (by decide) (Nat.le_refl 0) (Nat.le_refl 0) dX7_scriptCommandOnTrial_107
  rcases q_ite h with ⟨q5, h⟩ | ⟨q5, h⟩
  · refine q_tableIn (off := 71) (tgt := 108) C dX7_scriptCommandOnTrial_37 (by rw [q5]; decide) (by rw [q5]; decide) (by rw [q5]; rfl) (by decide) ?_
    refine q_iload C 5 dX7_scriptCommandOnTrial_108 rfl ?_
    refine q_if_ne (tgt := 129) C h dX7_scriptCommandOnTrial_110 (by decide) (fun h => ?_) (fun h => ?_)
    · refine q_iconst (v := 0) C dX7_scriptCommandOnTrial_129 (by decide) ?_
      obtain ⟨rfl, rfl⟩ := Prod.mk.inj (Option.some.inj h)
      exact q_zret C hr (by decide) (Nat.le_refl 0) (Nat.le_refl 0) dX7_scriptCommandOnTrial_130
    · refine q_aload_n C 0 dX7_scriptCommandOnTrial_113 rfl rfl ?_
      refine s_getr (a := 13) C lf7_37 ltp_0 kd_0 rfl dX7_scriptCommandOnTrial_114 ?_
      refine q_iload C 4 dX7_scriptCommandOnTrial_117 rfl ?_
      obtain ⟨r17, S18, hc16, h⟩ := ob2_e h
      refine q_callVi0 C ltp_13 (qmem_o kd_13 (Nat.le_of_ble_eq_true rfl)) rfl rfl (kX5_takeAway n 13 (tyT_13) x3 S hc16) lm7_198 rfl (rest := []) rfl (Nat.le_of_ble_eq_true rfl) dX7_scriptCommandOnTrial_119 ⟨rfl, rfl, Nat.le_of_ble_eq_true rfl, Nat.le_of_ble_eq_true rfl, Nat.le_of_ble_eq_true rfl, Nat.le_of_ble_eq_true rfl⟩ ?_
      refine q_if_ne (tgt := 129) C h dX7_scriptCommandOnTrial_122 (by decide) (fun h => ?_) (fun h => ?_)
      · refine q_iconst (v := 0) C dX7_scriptCommandOnTrial_129 (by decide) ?_
        obtain ⟨rfl, rfl⟩ := Prod.mk.inj (Option.some.inj h)
        exact q_zret C hr (by decide) (Nat.le_refl 0) (Nat.le_refl 0) dX7_scriptCommandOnTrial_130
      · refine q_iconst (v := 1) C dX7_scriptCommandOnTrial_125 (by decide) ?_
        refine q_goto (tgt := 130) C dX7_scriptCommandOnTrial_126 (by decide) ?_
        obtain ⟨rfl, rfl⟩ := Prod.mk.inj (Option.some.inj h)
        exact q_zret C hr (by decide) (Nat.le_refl 0) (Nat.le_refl 0) dX7_scriptCommandOnTrial_130
  rcases q_ite h with ⟨q6, h⟩ | ⟨q6, h⟩
  · refine q_tableIn (off := 94) (tgt := 131) C dX7_scriptCommandOnTrial_37 (by rw [q6]; decide) (by rw [q6]; decide) (by rw [q6]; rfl) (by decide) ?_
    refine q_aload_n C 0 dX7_scriptCommandOnTrial_131 rfl rfl ?_
    refine s_getr (a := 13) C lf7_37 ltp_0 kd_0 rfl dX7_scriptCommandOnTrial_132 ?_
    refine q_iload C 4 dX7_scriptCommandOnTrial_135 rfl ?_
    refine q_iload C 5 dX7_scriptCommandOnTrial_137 rfl ?_
    obtain ⟨r20, S21, hc19, h⟩ := ob2_e h
    refine q_callVi0 C ltp_13 (qmem_o kd_13 (Nat.le_of_ble_eq_true rfl)) rfl rfl (kX5_stretch 13 (tyT_13) x3 (v1 - v1 / 100 * 100) S hc19) lm7_201 rfl (rest := []) rfl (Nat.le_of_ble_eq_true rfl) dX7_scriptCommandOnTrial_139 ⟨rfl, rfl, Nat.le_of_ble_eq_true rfl, Nat.le_of_ble_eq_true rfl, Nat.le_of_ble_eq_true rfl, Nat.le_of_ble_eq_true rfl⟩ ?_
    refine q_if_ne (tgt := 149) C h dX7_scriptCommandOnTrial_142 (by decide) (fun h => ?_) (fun h => ?_)
    · refine q_iconst (v := 0) C dX7_scriptCommandOnTrial_149 (by decide) ?_
      obtain ⟨rfl, rfl⟩ := Prod.mk.inj (Option.some.inj h)
      exact q_zret C hr (by decide) (Nat.le_refl 0) (Nat.le_refl 0) dX7_scriptCommandOnTrial_150
    · refine q_iconst (v := 1) C dX7_scriptCommandOnTrial_145 (by decide) ?_
      refine q_goto (tgt := 150) C dX7_scriptCommandOnTrial_146 (by decide) ?_
      obtain ⟨rfl, rfl⟩ := Prod.mk.inj (Option.some.inj h)
      exact q_zret C hr (by decide) (Nat.le_refl 0) (Nat.le_refl 0) dX7_scriptCommandOnTrial_150
  rcases q_ite h with ⟨q7, h⟩ | ⟨q7, h⟩
  · refine q_tableIn (off := 114) (tgt := 151) C dX7_scriptCommandOnTrial_37 (by rw [q7]; decide) (by rw [q7]; decide) (by rw [q7]; rfl) (by decide) ?_
    refine q_iload C 5 dX7_scriptCommandOnTrial_151 rfl ?_
    refine q_if_eq (tgt := 163) C h dX7_scriptCommandOnTrial_153 (by decide) (fun h => ?_) (fun h => ?_)
    · refine q_norm [0, 4, 5] rfl ?_
      exact W7_scriptCommandOnTrial_163 C hr n x3 (v1 - v1 / 100 * 100) S h
    · refine q_iload C 5 dX7_scriptCommandOnTrial_156 rfl ?_
      refine q_bipush (v := 10) C dX7_scriptCommandOnTrial_158 (by decide) ?_
      refine q_icmp_ne (tgt := 191) C h dX7_scriptCommandOnTrial_160 (by decide) (fun h => ?_) (fun h => ?_)
      · refine q_iconst (v := 0) C dX7_scriptCommandOnTrial_191 (by decide) ?_
        obtain ⟨rfl, rfl⟩ := Prod.mk.inj (Option.some.inj h)
        exact q_zret C hr (by decide) (Nat.le_refl 0) (Nat.le_refl 0) dX7_scriptCommandOnTrial_192
      · refine q_norm [0, 4, 5] rfl ?_
        exact W7_scriptCommandOnTrial_163 C hr n x3 (v1 - v1 / 100 * 100) S h
  rcases q_ite h with ⟨q8, h⟩ | ⟨q8, h⟩
  · refine q_tableIn (off := 156) (tgt := 193) C dX7_scriptCommandOnTrial_37 (by rw [q8]; decide) (by rw [q8]; decide) (by rw [q8]; rfl) (by decide) ?_
    refine q_iload C 5 dX7_scriptCommandOnTrial_193 rfl ?_
    refine q_if_ne (tgt := 214) C h dX7_scriptCommandOnTrial_195 (by decide) (fun h => ?_) (fun h => ?_)
    · refine q_iconst (v := 0) C dX7_scriptCommandOnTrial_214 (by decide) ?_
      obtain ⟨rfl, rfl⟩ := Prod.mk.inj (Option.some.inj h)
      exact q_zret C hr (by decide) (Nat.le_refl 0) (Nat.le_refl 0) dX7_scriptCommandOnTrial_215
    · refine q_aload_n C 0 dX7_scriptCommandOnTrial_198 rfl rfl ?_
      refine s_getr (a := 13) C lf7_37 ltp_0 kd_0 rfl dX7_scriptCommandOnTrial_199 ?_
      refine q_iload_n C 2 dX7_scriptCommandOnTrial_202 rfl rfl ?_
      refine q_iload_n C 3 dX7_scriptCommandOnTrial_203 rfl rfl ?_
      obtain ⟨r26, S27, hc25, h⟩ := ob2_e h
      refine q_callVi0 C ltp_13 (qmem_o kd_13 (Nat.le_of_ble_eq_true rfl)) rfl rfl (kX5_direct 13 (tyT_13) x1 x2 S hc25) lm7_211 rfl (rest := []) rfl (Nat.le_of_ble_eq_true rfl) dX7_scriptCommandOnTrial_204 ⟨rfl, rfl, Nat.le_of_ble_eq_true rfl, Nat.le_of_ble_eq_true rfl, Nat.le_of_ble_eq_true rfl, Nat.le_of_ble_eq_true rfl⟩ ?_
      refine q_if_ne (tgt := 214) C h dX7_scriptCommandOnTrial_207 (by decide) (fun h => ?_) (fun h => ?_)
      · refine q_iconst (v := 0) C dX7_scriptCommandOnTrial_214 (by decide) ?_
        obtain ⟨rfl, rfl⟩ := Prod.mk.inj (Option.some.inj h)
        exact q_zret C hr (by decide) (Nat.le_refl 0) (Nat.le_refl 0) dX7_scriptCommandOnTrial_215
      · refine q_iconst (v := 1) C dX7_scriptCommandOnTrial_210 (by decide) ?_
        refine q_goto (tgt := 215) C dX7_scriptCommandOnTrial_211 (by decide) ?_
        obtain ⟨rfl, rfl⟩ := Prod.mk.inj (Option.some.inj h)
        exact q_zret C hr (by decide) (Nat.le_refl 0) (Nat.le_refl 0) dX7_scriptCommandOnTrial_215
  rcases q_ite h with ⟨q9, h⟩ | ⟨q9, h⟩
  · refine q_tableIn (off := 179) (tgt := 216) C dX7_scriptCommandOnTrial_37 (by rw [q9]; decide) (by rw [q9]; decide) (by rw [q9]; rfl) (by decide) ?_
    refine q_iload_n C 2 dX7_scriptCommandOnTrial_216 rfl rfl ?_
    refine q_if_ne (tgt := 243) C h dX7_scriptCommandOnTrial_217 (by decide) (fun h => ?_) (fun h => ?_)
    · refine q_iconst (v := 0) C dX7_scriptCommandOnTrial_243 (by decide) ?_
      obtain ⟨rfl, rfl⟩ := Prod.mk.inj (Option.some.inj h)
      exact q_zret C hr (by decide) (Nat.le_refl 0) (Nat.le_refl 0) dX7_scriptCommandOnTrial_244
    · refine q_aload_n C 0 dX7_scriptCommandOnTrial_220 rfl rfl ?_
      refine q_aload_n C 0 dX7_scriptCommandOnTrial_221 rfl rfl ?_
      refine s_getr (a := 13) C lf7_37 ltp_0 kd_0 rfl dX7_scriptCommandOnTrial_222 ?_
      obtain ⟨r29, S30, hc28, h⟩ := ob2_e h
      refine q_callVi0 C ltp_0 (qmem_o kd_0 (Nat.le_of_ble_eq_true rfl)) rfl rfl (kX7_bestLengthIn n 13 (tyT_13) S hc28) lm7_119 rfl (rest := []) rfl (Nat.le_of_ble_eq_true rfl) dX7_scriptCommandOnTrial_225 ⟨rfl, rfl, Nat.le_of_ble_eq_true rfl, Nat.le_of_ble_eq_true rfl, Nat.le_of_ble_eq_true rfl, Nat.le_of_ble_eq_true rfl⟩ ?_
      refine q_iload_n C 1 dX7_scriptCommandOnTrial_228 rfl rfl ?_
      refine q_sipush (v := 1000) C dX7_scriptCommandOnTrial_229 (by decide) ?_
      refine q_irem C dX7_scriptCommandOnTrial_232 (by decide) ?_
      refine q_callSi0 C (kX7_isAtMost r29 (v1 - v1 / 1000 * 1000) S30) lm7_332 rfl (rest := []) rfl (Nat.le_of_ble_eq_true rfl) dX7_scriptCommandOnTrial_233 ⟨rfl, rfl, Nat.le_of_ble_eq_true rfl, Nat.le_of_ble_eq_true rfl, Nat.le_of_ble_eq_true rfl, Nat.le_of_ble_eq_true rfl⟩ ?_
      refine q_if_eq (tgt := 243) C h dX7_scriptCommandOnTrial_236 (by decide) (fun h => ?_) (fun h => ?_)
      · refine q_iconst (v := 0) C dX7_scriptCommandOnTrial_243 (by decide) ?_
        obtain ⟨rfl, rfl⟩ := Prod.mk.inj (Option.some.inj h)
        exact q_zret C hr (by decide) (Nat.le_refl 0) (Nat.le_refl 0) dX7_scriptCommandOnTrial_244
      · refine q_iconst (v := 1) C dX7_scriptCommandOnTrial_239 (by decide) ?_
        refine q_goto (tgt := 244) C dX7_scriptCommandOnTrial_240 (by decide) ?_
        obtain ⟨rfl, rfl⟩ := Prod.mk.inj (Option.some.inj h)
        exact q_zret C hr (by decide) (Nat.le_refl 0) (Nat.le_refl 0) dX7_scriptCommandOnTrial_244
  rcases q_ite h with ⟨q10, h⟩ | ⟨q10, h⟩
  · refine q_tableIn (off := 208) (tgt := 245) C dX7_scriptCommandOnTrial_37 (by rw [q10]; decide) (by rw [q10]; decide) (by rw [q10]; rfl) (by decide) ?_
    refine q_iload C 5 dX7_scriptCommandOnTrial_245 rfl ?_
    refine q_if_ne (tgt := 263) C h dX7_scriptCommandOnTrial_247 (by decide) (fun h => ?_) (fun h => ?_)
    · refine q_iconst (v := 0) C dX7_scriptCommandOnTrial_263 (by decide) ?_
      obtain ⟨rfl, rfl⟩ := Prod.mk.inj (Option.some.inj h)
      exact q_zret C hr (by decide) (Nat.le_refl 0) (Nat.le_refl 0) dX7_scriptCommandOnTrial_264
    · refine q_aload_n C 0 dX7_scriptCommandOnTrial_250 rfl rfl ?_
      refine q_iload C 4 dX7_scriptCommandOnTrial_251 rfl ?_
      obtain ⟨r32, S33, hc31, h⟩ := ob2_e h
      refine q_callVi0 C ltp_0 (qmem_o kd_0 (Nat.le_of_ble_eq_true rfl)) rfl rfl (kX7_isOnBestWayOfTrial n x3 S hc31) lm7_317 rfl (rest := []) rfl (Nat.le_of_ble_eq_true rfl) dX7_scriptCommandOnTrial_253 ⟨rfl, rfl, Nat.le_of_ble_eq_true rfl, Nat.le_of_ble_eq_true rfl, Nat.le_of_ble_eq_true rfl, Nat.le_of_ble_eq_true rfl⟩ ?_
      refine q_if_eq (tgt := 263) C h dX7_scriptCommandOnTrial_256 (by decide) (fun h => ?_) (fun h => ?_)
      · refine q_iconst (v := 0) C dX7_scriptCommandOnTrial_263 (by decide) ?_
        obtain ⟨rfl, rfl⟩ := Prod.mk.inj (Option.some.inj h)
        exact q_zret C hr (by decide) (Nat.le_refl 0) (Nat.le_refl 0) dX7_scriptCommandOnTrial_264
      · refine q_iconst (v := 1) C dX7_scriptCommandOnTrial_259 (by decide) ?_
        refine q_goto (tgt := 264) C dX7_scriptCommandOnTrial_260 (by decide) ?_
        obtain ⟨rfl, rfl⟩ := Prod.mk.inj (Option.some.inj h)
        exact q_zret C hr (by decide) (Nat.le_refl 0) (Nat.le_refl 0) dX7_scriptCommandOnTrial_264
  rcases q_ite h with ⟨q11, h⟩ | ⟨q11, h⟩
  · refine q_tableIn (off := 228) (tgt := 265) C dX7_scriptCommandOnTrial_37 (by rw [q11]; decide) (by rw [q11]; decide) (by rw [q11]; rfl) (by decide) ?_
    refine q_iload C 4 dX7_scriptCommandOnTrial_265 rfl ?_
    refine q_if_ne (tgt := 290) C h dX7_scriptCommandOnTrial_267 (by decide) (fun h => ?_) (fun h => ?_)
    · refine q_iconst (v := 0) C dX7_scriptCommandOnTrial_290 (by decide) ?_
      obtain ⟨rfl, rfl⟩ := Prod.mk.inj (Option.some.inj h)
      exact q_zret C hr (by decide) (Nat.le_refl 0) (Nat.le_refl 0) dX7_scriptCommandOnTrial_291
    · refine q_iload C 5 dX7_scriptCommandOnTrial_270 rfl ?_
      refine q_bipush (v := 10) C dX7_scriptCommandOnTrial_272 (by decide) ?_
      refine q_icmp_ge (tgt := 290) C h dX7_scriptCommandOnTrial_274 (by decide) (fun h => ?_) (fun h => ?_)
      · refine q_iconst (v := 0) C dX7_scriptCommandOnTrial_290 (by decide) ?_
        obtain ⟨rfl, rfl⟩ := Prod.mk.inj (Option.some.inj h)
        exact q_zret C hr (by decide) (Nat.le_refl 0) (Nat.le_refl 0) dX7_scriptCommandOnTrial_291
      · refine q_aload_n C 0 dX7_scriptCommandOnTrial_277 rfl rfl ?_
        refine q_iload C 5 dX7_scriptCommandOnTrial_278 rfl ?_
        obtain ⟨r35, S36, hc34, h⟩ := ob2_e h
        refine q_callVi0 C ltp_0 (qmem_o kd_0 (Nat.le_of_ble_eq_true rfl)) rfl rfl (kX7_hasTrialWayOf n (v1 - v1 / 100 * 100) S hc34) lm7_335 rfl (rest := []) rfl (Nat.le_of_ble_eq_true rfl) dX7_scriptCommandOnTrial_280 ⟨rfl, rfl, Nat.le_of_ble_eq_true rfl, Nat.le_of_ble_eq_true rfl, Nat.le_of_ble_eq_true rfl, Nat.le_of_ble_eq_true rfl⟩ ?_
        refine q_if_eq (tgt := 290) C h dX7_scriptCommandOnTrial_283 (by decide) (fun h => ?_) (fun h => ?_)
        · refine q_iconst (v := 0) C dX7_scriptCommandOnTrial_290 (by decide) ?_
          obtain ⟨rfl, rfl⟩ := Prod.mk.inj (Option.some.inj h)
          exact q_zret C hr (by decide) (Nat.le_refl 0) (Nat.le_refl 0) dX7_scriptCommandOnTrial_291
        · refine q_iconst (v := 1) C dX7_scriptCommandOnTrial_286 (by decide) ?_
          refine q_goto (tgt := 291) C dX7_scriptCommandOnTrial_287 (by decide) ?_
          obtain ⟨rfl, rfl⟩ := Prod.mk.inj (Option.some.inj h)
          exact q_zret C hr (by decide) (Nat.le_refl 0) (Nat.le_refl 0) dX7_scriptCommandOnTrial_291
  rcases q_ite h with ⟨q12, h⟩ | ⟨q12, h⟩
  · refine q_tableIn (off := 255) (tgt := 292) C dX7_scriptCommandOnTrial_37 (by rw [q12]; decide) (by rw [q12]; decide) (by rw [q12]; rfl) (by decide) ?_
    refine q_iload_n C 3 dX7_scriptCommandOnTrial_292 rfl rfl ?_
    refine q_if_ne (tgt := 310) C h dX7_scriptCommandOnTrial_293 (by decide) (fun h => ?_) (fun h => ?_)
    · refine q_iconst (v := 0) C dX7_scriptCommandOnTrial_310 (by decide) ?_
      obtain ⟨rfl, rfl⟩ := Prod.mk.inj (Option.some.inj h)
      exact q_zret C hr (by decide) (Nat.le_refl 0) (Nat.le_refl 0) dX7_scriptCommandOnTrial_311
    · refine q_aload_n C 0 dX7_scriptCommandOnTrial_296 rfl rfl ?_
      refine q_iload_n C 2 dX7_scriptCommandOnTrial_297 rfl rfl ?_
      refine q_iload C 5 dX7_scriptCommandOnTrial_298 rfl ?_
      obtain ⟨r38, S39, hc37, h⟩ := ob2_e h
      refine q_callVi0 C ltp_0 (qmem_o kd_0 (Nat.le_of_ble_eq_true rfl)) rfl rfl (kX7_isNearInTrial n x1 (v1 - v1 / 100 * 100) S hc37) lm7_338 rfl (rest := []) rfl (Nat.le_of_ble_eq_true rfl) dX7_scriptCommandOnTrial_300 ⟨rfl, rfl, Nat.le_of_ble_eq_true rfl, Nat.le_of_ble_eq_true rfl, Nat.le_of_ble_eq_true rfl, Nat.le_of_ble_eq_true rfl⟩ ?_
      refine q_if_eq (tgt := 310) C h dX7_scriptCommandOnTrial_303 (by decide) (fun h => ?_) (fun h => ?_)
      · refine q_iconst (v := 0) C dX7_scriptCommandOnTrial_310 (by decide) ?_
        obtain ⟨rfl, rfl⟩ := Prod.mk.inj (Option.some.inj h)
        exact q_zret C hr (by decide) (Nat.le_refl 0) (Nat.le_refl 0) dX7_scriptCommandOnTrial_311
      · refine q_iconst (v := 1) C dX7_scriptCommandOnTrial_306 (by decide) ?_
        refine q_goto (tgt := 311) C dX7_scriptCommandOnTrial_307 (by decide) ?_
        obtain ⟨rfl, rfl⟩ := Prod.mk.inj (Option.some.inj h)
        exact q_zret C hr (by decide) (Nat.le_refl 0) (Nat.le_refl 0) dX7_scriptCommandOnTrial_311
  refine q_tableOut (tgt := 312) C dX7_scriptCommandOnTrial_37 (by have q4 := q_ne (k := 1) (by decide) q4; have q5 := q_ne (k := 2) (by decide) q5; have q6 := q_ne (k := 3) (by decide) q6; have q7 := q_ne (k := 4) (by decide) q7; have q8 := q_ne (k := 5) (by decide) q8; have q9 := q_ne (k := 6) (by decide) q9; have q10 := q_ne (k := 7) (by decide) q10; have q11 := q_ne (k := 8) (by decide) q11; have q12 := q_ne (k := 9) (by decide) q12; omega) (by decide) ?_
  refine q_iconst (v := 0) C dX7_scriptCommandOnTrial_312 (by decide) ?_
  obtain ⟨rfl, rfl⟩ := Prod.mk.inj (Option.some.inj h)
  exact q_zret C hr (by decide) (Nat.le_refl 0) (Nat.le_refl 0) dX7_scriptCommandOnTrial_313
/-- the room of d + 1 levels -/
abbrev rmX7_countWays (d : Nat) : Room := { frames := d + 3, cells := 0, slots := 0, locals := 40 * d + 120 }
def B7_countWays_113 (n : Nat) (rec : Int32 → Int32 → Int32 → Int32 → Int32 → qSt → Option Int32) (a0 : Nat) (K30 : Int32 → Int32 → Int32 → Int32 → Int32 → Int32 → qSt → Option Int32) (v1 : Int32) (v2 : Int32) (v3 : Int32) (v4 : Int32) (v6 : Int32) (v7 : Int32) (S : qSt) : Option Int32 := K30 v1 v2 v3 v4 v6 (v7 + 1) S
set_option maxRecDepth 100000 in
set_option maxHeartbeats 4000000 in
theorem W7_countWays_113 {r : Int32} (C : qC g cX7_countWays RX7 9 p s m meth c) (hr : meth.sig.returnType = (some .int)) (n : Nat) (d : Nat) (rec : Int32 → Int32 → Int32 → Int32 → Int32 → qSt → Option Int32) (a0 : Nat) (ha0 : tyT a0) (hrec : ∀ (v1 v2 v3 v4 v5 : Int32) (S : qSt) (r : Int32), rec v1 v2 v3 v4 v5 S = some r → Met l yX7_countWays [.code yX7_countWays cX7_countWays 9 (some .int)] (rmX7_countWays d) (qPc g NL qT (qmem g S) [.ref (qa g a0), .int v1, .int v2, .int v3, .int v4, .int v5]) (qQi g NL qT (qmem g S) r) 0 0 (qA g)) (K30 : Int32 → Int32 → Int32 → Int32 → Int32 → Int32 → qSt → Option Int32) (hK30 : ∀ (v1 : Int32) (v2 : Int32) (v3 : Int32) (v4 : Int32) (v6 : Int32) (v7 : Int32) (S : qSt), K30 v1 v2 v3 v4 v6 v7 S = some r → qR g NL qT 9 p l e (rmX7_countWays (d + 1)) s m args below meth c 0 0 (MQ below (qQi g NL qT (qmem g S) r) args s 0 0 (qA g)) (qmem g S) 30 [(0, .ref (qa g a0)), (1, .int v1), (2, .int v2), (3, .int v3), (4, .int v4), (6, .int v6), (7, .int v7)] []) (v1 : Int32) (v2 : Int32) (v3 : Int32) (v4 : Int32) (v6 : Int32) (v7 : Int32) (S : qSt) (h : B7_countWays_113 n rec a0 K30 v1 v2 v3 v4 v6 v7 S = some r) : qR g NL qT 9 p l e (rmX7_countWays (d + 1)) s m args below meth c 0 0 (MQ below (qQi g NL qT (qmem g S) r) args s 0 0 (qA g)) (qmem g S) 113 [(0, .ref (qa g a0)), (1, .int v1), (2, .int v2), (3, .int v3), (4, .int v4), (6, .int v6), (7, .int v7)] [] := by
  unfold B7_countWays_113 at h
  refine q_iinc C 6 (v := v7 + 1) (lv' := [(7, .int (v7 + 1)), (0, .ref (qa g a0)), (1, .int v1), (2, .int v2), (3, .int v3), (4, .int v4), (6, .int v6)]) dX7_countWays_113 rfl rfl (by decide) rfl ?_
  refine q_norm [1, 2, 3, 4, 5, 6, 0] rfl ?_
  refine q_goto (tgt := 30) C dX7_countWays_116 (by decide) ?_
  exact hK30 v1 v2 v3 v4 v6 (v7 + 1) S h
def B7_countWays_30 (n : Nat) (rec : Int32 → Int32 → Int32 → Int32 → Int32 → qSt → Option Int32) (a0 : Nat) : Nat → Int32 → Int32 → Int32 → Int32 → Int32 → Int32 → qSt → Option Int32
  | 0, _, _, _, _, _, _, _ => none
  | n9 + 1, v1, v2, v3, v4, v6, v7, S => if (S a0 1) ≤ v7 then (some v6) else (if 500 ≤ v6 then (some v6) else (ob1 (F5_reachedThrough a0 v7 v1 S) fun r2 => if r2 = (-999) then (B7_countWays_113 n rec a0 (B7_countWays_30 n rec a0 n9) v1 v2 v3 v4 v6 v7 S) else (if ¬ (v3 &&& (1 <<< (r2 &&& 31))) = 0 then (B7_countWays_113 n rec a0 (B7_countWays_30 n rec a0 n9) v1 v2 v3 v4 v6 v7 S) else (if qin v7 21 = true then if v2 < (S (a0 + 3) v7.toNatClampNeg) then (B7_countWays_113 n rec a0 (B7_countWays_30 n rec a0 n9) v1 v2 v3 v4 v6 v7 S) else (ob1 (rec r2 (v2 - (S (a0 + 3) v7.toNatClampNeg)) (v3 ||| (1 <<< (r2 &&& 31))) (v4 + 1) v6 S) fun r5 => B7_countWays_113 n rec a0 (B7_countWays_30 n rec a0 n9) v1 v2 v3 v4 r5 v7 S) else none))))
set_option maxRecDepth 100000 in
set_option maxHeartbeats 4000000 in
theorem W7_countWays_30 {r : Int32} (C : qC g cX7_countWays RX7 9 p s m meth c) (hr : meth.sig.returnType = (some .int)) (n : Nat) (d : Nat) (rec : Int32 → Int32 → Int32 → Int32 → Int32 → qSt → Option Int32) (a0 : Nat) (ha0 : tyT a0) (hrec : ∀ (v1 v2 v3 v4 v5 : Int32) (S : qSt) (r : Int32), rec v1 v2 v3 v4 v5 S = some r → Met l yX7_countWays [.code yX7_countWays cX7_countWays 9 (some .int)] (rmX7_countWays d) (qPc g NL qT (qmem g S) [.ref (qa g a0), .int v1, .int v2, .int v3, .int v4, .int v5]) (qQi g NL qT (qmem g S) r) 0 0 (qA g)) : ∀ (n9 : Nat) (v1 : Int32) (v2 : Int32) (v3 : Int32) (v4 : Int32) (v6 : Int32) (v7 : Int32) (S : qSt), B7_countWays_30 n rec a0 n9 v1 v2 v3 v4 v6 v7 S = some r → qR g NL qT 9 p l e (rmX7_countWays (d + 1)) s m args below meth c 0 0 (MQ below (qQi g NL qT (qmem g S) r) args s 0 0 (qA g)) (qmem g S) 30 [(0, .ref (qa g a0)), (1, .int v1), (2, .int v2), (3, .int v3), (4, .int v4), (6, .int v6), (7, .int v7)] [] := by
  intro n9
  induction n9 with
  | zero =>
    intro v1 v2 v3 v4 v6 v7 S h
    have h9 : (none : Option Int32) = some r := h
    cases h9
  | succ n9 ih =>
    intro v1 v2 v3 v4 v6 v7 S h
    rw [B7_countWays_30] at h
    refine q_iload C 6 dX7_countWays_30 rfl ?_
    refine q_aload_n C 0 dX7_countWays_32 rfl rfl ?_
    refine s_geti C lf7_103 ha0.l0 ha0.k0 dX7_countWays_33 ?_
    refine q_icmp_ge (tgt := 119) C h dX7_countWays_36 (by decide) (fun h => ?_) (fun h => ?_)
    · refine q_iload C 5 dX7_countWays_119 rfl ?_
      obtain rfl := Option.some.inj h
      exact q_iret C hr (Nat.le_refl 0) (Nat.le_refl 0) dX7_countWays_121
    · refine q_iload C 5 dX7_countWays_39 rfl ?_
      refine q_sipush (v := 500) C dX7_countWays_41 (by decide) ?_
      refine q_icmp_ge (tgt := 119) C h dX7_countWays_44 (by decide) (fun h => ?_) (fun h => ?_)
      · refine q_iload C 5 dX7_countWays_119 rfl ?_
        obtain rfl := Option.some.inj h
        exact q_iret C hr (Nat.le_refl 0) (Nat.le_refl 0) dX7_countWays_121
      · refine q_aload_n C 0 dX7_countWays_47 rfl rfl ?_
        refine q_iload C 6 dX7_countWays_48 rfl ?_
        refine q_iload_n C 1 dX7_countWays_50 rfl rfl ?_
        obtain ⟨r2, hc1, h⟩ := ob1_e h
        refine q_callVi0 C ha0.l0 (qmem_o ha0.k0 (Nat.le_of_ble_eq_true rfl)) rfl rfl (kX5_reachedThrough a0 (ha0) v7 v1 S hc1) lm7_320 rfl (rest := []) rfl (Nat.le_of_ble_eq_true rfl) dX7_countWays_51 (by refine ⟨rfl, rfl, ?_, ?_, Nat.le_refl 0, Nat.le_refl 0⟩ <;> simp only [rmX7_countWays, rmX5_reachedThrough] <;> omega) ?_
        refine q_istore C (lv' := [(8, .int r2), (0, .ref (qa g a0)), (1, .int v1), (2, .int v2), (3, .int v3), (4, .int v4), (6, .int v6), (7, .int v7)]) dX7_countWays_54 (by decide) rfl ?_
        refine q_norm [1, 2, 3, 4, 5, 6, 7, 0] rfl ?_
        refine q_iload C 7 dX7_countWays_56 rfl ?_
        refine q_sipush (v := (-999)) C dX7_countWays_58 (by decide) ?_
        refine q_icmp_eq (tgt := 113) C h dX7_countWays_61 (by decide) (fun h => ?_) (fun h => ?_)
        · refine q_norm [0, 1, 2, 3, 4, 5, 6] rfl ?_
          exact W7_countWays_113 C hr n d rec a0 ha0 hrec (B7_countWays_30 n rec a0 n9) ih v1 v2 v3 v4 v6 v7 S h
        · refine q_iload_n C 3 dX7_countWays_64 rfl rfl ?_
          refine q_iconst (v := 1) C dX7_countWays_65 (by decide) ?_
          refine q_iload C 7 dX7_countWays_66 rfl ?_
          refine q_ishl C dX7_countWays_68 ?_
          refine q_iand C dX7_countWays_69 ?_
          refine q_if_ne (tgt := 113) C h dX7_countWays_70 (by decide) (fun h => ?_) (fun h => ?_)
          · refine q_norm [0, 1, 2, 3, 4, 5, 6] rfl ?_
            exact W7_countWays_113 C hr n d rec a0 ha0 hrec (B7_countWays_30 n rec a0 n9) ih v1 v2 v3 v4 v6 v7 S h
          · refine q_aload_n C 0 dX7_countWays_73 rfl rfl ?_
            refine s_getr (a := (a0 + 3)) C lf7_144 ha0.l0 ha0.k0 rfl dX7_countWays_74 ?_
            refine q_iload C 6 dX7_countWays_77 rfl ?_
            obtain ⟨hb3, h⟩ := q_if h
            refine s_iald C ha0.l3 ha0.k3 hb3 dX7_countWays_79 ?_
            refine q_iload_n C 2 dX7_countWays_80 rfl rfl ?_
            refine q_icmp_gt (tgt := 113) C h dX7_countWays_81 (by decide) (fun h => ?_) (fun h => ?_)
            · refine q_norm [0, 1, 2, 3, 4, 5, 6] rfl ?_
              exact W7_countWays_113 C hr n d rec a0 ha0 hrec (B7_countWays_30 n rec a0 n9) ih v1 v2 v3 v4 v6 v7 S h
            · refine q_aload_n C 0 dX7_countWays_84 rfl rfl ?_
              refine q_iload C 7 dX7_countWays_85 rfl ?_
              refine q_iload_n C 2 dX7_countWays_87 rfl rfl ?_
              refine q_aload_n C 0 dX7_countWays_88 rfl rfl ?_
              refine s_getr (a := (a0 + 3)) C lf7_144 ha0.l0 ha0.k0 rfl dX7_countWays_89 ?_
              refine q_iload C 6 dX7_countWays_92 rfl ?_
              refine s_iald C ha0.l3 ha0.k3 hb3 dX7_countWays_94 ?_
              refine q_isub C dX7_countWays_95 ?_
              refine q_iload_n C 3 dX7_countWays_96 rfl rfl ?_
              refine q_iconst (v := 1) C dX7_countWays_97 (by decide) ?_
              refine q_iload C 7 dX7_countWays_98 rfl ?_
              refine q_ishl C dX7_countWays_100 ?_
              refine q_ior C dX7_countWays_101 ?_
              refine q_iload C 4 dX7_countWays_102 rfl ?_
              refine q_iconst (v := 1) C dX7_countWays_104 (by decide) ?_
              refine q_iadd C dX7_countWays_105 ?_
              refine q_iload C 5 dX7_countWays_106 rfl ?_
              obtain ⟨r5, hc4, h⟩ := ob1_e h
              refine q_callSi0 C (hrec r2 (v2 - (S (a0 + 3) v7.toNatClampNeg)) (v3 ||| (1 <<< (r2 &&& 31))) (v4 + 1) v6 S r5 hc4) lm7_249 rfl (rest := []) rfl (Nat.le_of_ble_eq_true rfl) dX7_countWays_108 (by refine ⟨rfl, rfl, ?_, ?_, Nat.le_refl 0, Nat.le_refl 0⟩ <;> simp only [rmX7_countWays] <;> omega) ?_
              refine q_istore C (lv' := [(6, .int r5), (0, .ref (qa g a0)), (1, .int v1), (2, .int v2), (3, .int v3), (4, .int v4), (7, .int v7), (8, .int r2)]) dX7_countWays_111 (by decide) rfl ?_
              refine q_norm [1, 2, 3, 4, 5, 0, 6, 7] rfl ?_
              refine q_norm [0, 1, 2, 3, 4, 5, 6] rfl ?_
              exact W7_countWays_113 C hr n d rec a0 ha0 hrec (B7_countWays_30 n rec a0 n9) ih v1 v2 v3 v4 r5 v7 S h
def F7_countWays (n : Nat) (a0 : Nat) : Nat → Int32 → Int32 → Int32 → Int32 → Int32 → qSt → Option Int32
  | 0, _, _, _, _, _, _ => none
  | d + 1, v1, v2, v3, v4, v5, S => if ¬ v1 = (S a0 3) then (if v4 < 9 then (B7_countWays_30 n (F7_countWays n a0 d) a0 n v1 v2 v3 v4 v5 0 S) else (some v5)) else (some (v5 + 1))
set_option maxRecDepth 100000 in
set_option maxHeartbeats 4000000 in
theorem kX7_countWays {l : Launch} {g : qG} (n : Nat) (a0 : Nat) (ha0 : tyT a0) : ∀ (d : Nat) (v1 v2 v3 v4 v5 : Int32) (S : qSt) {r : Int32} (h : F7_countWays n a0 d v1 v2 v3 v4 v5 S = some r), Met l yX7_countWays [.code yX7_countWays cX7_countWays 9 (some .int)] (rmX7_countWays d) (qPc g NL qT (qmem g S) [.ref (qa g a0), .int v1, .int v2, .int v3, .int v4, .int v5]) (qQi g NL qT (qmem g S) r) 0 0 (qA g) := by
  intro d
  induction d with
  | zero => intro v1 v2 v3 v4 v5 S r h; have h9 : (none : Option Int32) = some r := h; cases h9
  | succ d ih =>
    intro v1 v2 v3 v4 v5 S r h
    have hrec := fun v1 v2 v3 v4 v5 S r h => @ih v1 v2 v3 v4 v5 S r h
    generalize hrm : rmX7_countWays (d + 1) = RM0
    refine q_met (by decide) (Nat.le_of_ble_eq_true rfl) (fun p e s m args below meth c C hr _ => ?_)
    subst hrm
    have C : qC g cX7_countWays RX7 9 p s m meth c := C
    show qR g NL qT 9 p l e (rmX7_countWays (d + 1)) s m args below meth c 0 0 (MQ below (qQi g NL qT (qmem g S) r) args s 0 0 (qA g)) (qmem g S) 0 [(0, .ref (qa g a0)), (1, .int v1), (2, .int v2), (3, .int v3), (4, .int v4), (5, .int v5)] []
    rw [F7_countWays] at h
    refine q_iload_n C 1 dX7_countWays_0 rfl rfl ?_
    refine q_aload_n C 0 dX7_countWays_1 rfl rfl ?_
    refine s_geti C lf7_116 ha0.l0 ha0.k0 dX7_countWays_2 ?_
    refine q_icmp_ne (tgt := 13) C h dX7_countWays_5 (by decide) (fun h => ?_) (fun h => ?_)
    · refine q_iload C 5 dX7_countWays_13 rfl ?_
      refine q_istore C (lv' := [(6, .int v5), (0, .ref (qa g a0)), (1, .int v1), (2, .int v2), (3, .int v3), (4, .int v4), (5, .int v5)]) dX7_countWays_15 (by decide) rfl ?_
      refine q_norm [1, 2, 3, 4, 5, 6, 0] rfl ?_
      refine q_iload C 4 dX7_countWays_17 rfl ?_
      refine q_bipush (v := 9) C dX7_countWays_19 (by decide) ?_
      refine q_icmp_lt (tgt := 27) C h dX7_countWays_21 (by decide) (fun h => ?_) (fun h => ?_)
      · refine q_iconst (v := 0) C dX7_countWays_27 (by decide) ?_
        refine q_istore C (lv' := [(7, .int 0), (0, .ref (qa g a0)), (1, .int v1), (2, .int v2), (3, .int v3), (4, .int v4), (5, .int v5), (6, .int v5)]) dX7_countWays_28 (by decide) rfl ?_
        refine q_norm [1, 2, 3, 4, 5, 6, 7, 0] rfl ?_
        refine q_norm [0, 1, 2, 3, 4, 6, 7] rfl ?_
        exact W7_countWays_30 C hr n d (F7_countWays n a0 d) a0 ha0 hrec n v1 v2 v3 v4 v5 0 S h
      · refine q_iload C 6 dX7_countWays_24 rfl ?_
        obtain rfl := Option.some.inj h
        exact q_iret C hr (Nat.le_refl 0) (Nat.le_refl 0) dX7_countWays_26
    · refine q_iload C 5 dX7_countWays_8 rfl ?_
      refine q_iconst (v := 1) C dX7_countWays_10 (by decide) ?_
      refine q_iadd C dX7_countWays_11 ?_
      obtain rfl := Option.some.inj h
      exact q_iret C hr (Nat.le_refl 0) (Nat.le_refl 0) dX7_countWays_12
end
