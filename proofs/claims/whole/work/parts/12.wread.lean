section
variable {l : Launch} {g : qG} {p : Program} {e : Env} {s : State} {m : MethodId} {args : Array Value} {below : List Frame} {meth : Method} {c : Code}
/-! ClosedStreets$PlanReader.numbersBehind -/
abbrev rmX1_numbersBehind : Room := { frames := 0, cells := 0, slots := 0, locals := 0 }
def F1_numbersBehind (v0 : Int32) (S : qSt) : Int32 := if v0 = 99 then (1) else if v0 = 101 then (2) else if v0 = 108 then (2) else if v0 = 111 then (1) else (0)
set_option maxRecDepth 100000 in
set_option maxHeartbeats 4000000 in
theorem kX1_numbersBehind {l : Launch} {g : qG} (v0 : Int32) (S : qSt) : Met l yX1_numbersBehind [.code yX1_numbersBehind cX1_numbersBehind 1 (some .int)] rmX1_numbersBehind (qPc g NL qT (qmem g S) [.int v0]) (qQi g NL qT (qmem g S) (F1_numbersBehind v0 S)) 0 0 (qA g) := by
  obtain ⟨r, h⟩ : ∃ r, F1_numbersBehind v0 S = r := ⟨_, rfl⟩
  rw [h]
  refine q_met (by decide) (Nat.le_of_ble_eq_true rfl) (fun p e s m args below meth c C hr _ => ?_)
  have C : qC g cX1_numbersBehind RX1 1 p s m meth c := C
  show qR g NL qT 1 p l e rmX1_numbersBehind s m args below meth c 0 0 (MQ below (qQi g NL qT (qmem g S) r) args s 0 0 (qA g)) (qmem g S) 0 [(0, .int v0)] []
  unfold F1_numbersBehind at h
  refine q_iload_n C 0 dX1_numbersBehind_0 rfl rfl ?_
  rcases q_ite h with ⟨q1, h⟩ | ⟨q1, h⟩
  · refine q_lookup (off := 43) (tgt := 44) C dX1_numbersBehind_1 (by decide) (by rw [q1]; rfl) (by decide) ?_
    refine q_iconst (v := 1) C dX1_numbersBehind_44 (by decide) ?_
    subst h
    exact q_iret C hr (Nat.le_refl 0) (Nat.le_refl 0) dX1_numbersBehind_45
  rcases q_ite h with ⟨q2, h⟩ | ⟨q2, h⟩
  · refine q_lookup (off := 45) (tgt := 46) C dX1_numbersBehind_1 (by decide) (by rw [q2]; rfl) (by decide) ?_
    refine q_iconst (v := 2) C dX1_numbersBehind_46 (by decide) ?_
    subst h
    exact q_iret C hr (Nat.le_refl 0) (Nat.le_refl 0) dX1_numbersBehind_47
  rcases q_ite h with ⟨q3, h⟩ | ⟨q3, h⟩
  · refine q_lookup (off := 45) (tgt := 46) C dX1_numbersBehind_1 (by decide) (by rw [q3]; rfl) (by decide) ?_
    refine q_iconst (v := 2) C dX1_numbersBehind_46 (by decide) ?_
    subst h
    exact q_iret C hr (Nat.le_refl 0) (Nat.le_refl 0) dX1_numbersBehind_47
  rcases q_ite h with ⟨q4, h⟩ | ⟨q4, h⟩
  · refine q_lookup (off := 43) (tgt := 44) C dX1_numbersBehind_1 (by decide) (by rw [q4]; rfl) (by decide) ?_
    refine q_iconst (v := 1) C dX1_numbersBehind_44 (by decide) ?_
    subst h
    exact q_iret C hr (Nat.le_refl 0) (Nat.le_refl 0) dX1_numbersBehind_45
  refine q_lookup (off := 47) (tgt := 48) C dX1_numbersBehind_1 (by decide) (by have q1 := q_ne (k := 99) (by decide) q1; have q2 := q_ne (k := 101) (by decide) q2; have q3 := q_ne (k := 108) (by decide) q3; have q4 := q_ne (k := 111) (by decide) q4; show Op.lookupswitch.offset [(99, 43), (101, 45), (108, 45), (111, 43)] 47 (v0).toInt = 47; rw [Op.lookupswitch.offset_cons, if_neg (Ne.symm q1), Op.lookupswitch.offset_cons, if_neg (Ne.symm q2), Op.lookupswitch.offset_cons, if_neg (Ne.symm q3), Op.lookupswitch.offset_cons, if_neg (Ne.symm q4)]; rfl) (by decide) ?_
  refine q_iconst (v := 0) C dX1_numbersBehind_48 (by decide) ?_
  subst h
  exact q_iret C hr (Nat.le_refl 0) (Nat.le_refl 0) dX1_numbersBehind_49
/-! ClosedStreets$PlanReader.readBlank -/
abbrev rmX1_readBlank : Room := { frames := 1, cells := 0, slots := 0, locals := 40 }
def F1_readBlank (S : qSt) : Option (Int32 × qSt) := ob1 (F4_codeAt (S 4 4) S) fun r2 => if r2 = 32 then (obs (qup S 4 4 ((S 4 4) + 1)) fun S3 => some (1, S3)) else (some (0, S))
set_option maxRecDepth 100000 in
set_option maxHeartbeats 4000000 in
theorem kX1_readBlank {l : Launch} {g : qG} (S : qSt) {r : Int32} {S2 : qSt} (h : F1_readBlank S = some (r, S2)) : Met l yX1_readBlank [.code yX1_readBlank cX1_readBlank 2 (some .boolean)] rmX1_readBlank (qPc g NL qT (qmem g S) [.ref (qa g 4), .ref (qa g 1)]) (qQi g NL qT (qmem g S2) r) 0 0 (qA g) := by
  refine q_met (by decide) (Nat.le_of_ble_eq_true rfl) (fun p e s m args below meth c C hr _ => ?_)
  have C : qC g cX1_readBlank RX1 2 p s m meth c := C
  show qR g NL qT 2 p l e rmX1_readBlank s m args below meth c 0 0 (MQ below (qQi g NL qT (qmem g S2) r) args s 0 0 (qA g)) (qmem g S) 0 [(0, .ref (qa g 4)), (1, .ref (qa g 1))] []
  unfold F1_readBlank at h
  refine q_aload_n C 1 dX1_readBlank_0 rfl rfl ?_
  refine q_aload_n C 0 dX1_readBlank_1 rfl rfl ?_
  refine s_geti C lf1_25 ltp_4 kd_4 dX1_readBlank_2 ?_
  obtain ⟨r2, hc1, h⟩ := ob1_e h
  refine q_callVi0 C ltp_1 (qmem_o kd_1 (Nat.le_of_ble_eq_true rfl)) rfl rfl (kX4_codeAt (S 4 4) S hc1) lm1_41 rfl (rest := []) rfl (Nat.le_of_ble_eq_true rfl) dX1_readBlank_5 ⟨rfl, rfl, Nat.le_of_ble_eq_true rfl, Nat.le_of_ble_eq_true rfl, Nat.le_of_ble_eq_true rfl, Nat.le_of_ble_eq_true rfl⟩ ?_
  refine q_bipush (v := 32) C dX1_readBlank_8 (by decide) ?_
  refine q_icmp_eq (tgt := 15) C h dX1_readBlank_10 (by decide) (fun h => ?_) (fun h => ?_)
  · refine q_aload_n C 0 dX1_readBlank_15 rfl rfl ?_
    refine q_dup C dX1_readBlank_16 rfl ?_
    refine s_geti C lf1_25 ltp_4 kd_4 dX1_readBlank_17 ?_
    refine q_iconst (v := 1) C dX1_readBlank_20 (by decide) ?_
    refine q_iadd C dX1_readBlank_21 ?_
    obtain ⟨S3, hS3, h⟩ := obs_e h
    refine s_puti C lf1_25 ltp_4 kd_4 dX1_readBlank_22 ?_
    rw [← hS3]
    refine q_iconst (v := 1) C dX1_readBlank_25 (by decide) ?_
    obtain ⟨rfl, rfl⟩ := Prod.mk.inj (Option.some.inj h)
    exact q_zret C hr (by decide) (Nat.le_refl 0) (Nat.le_refl 0) dX1_readBlank_26
  · refine q_iconst (v := 0) C dX1_readBlank_13 (by decide) ?_
    obtain ⟨rfl, rfl⟩ := Prod.mk.inj (Option.some.inj h)
    exact q_zret C hr (by decide) (Nat.le_refl 0) (Nat.le_refl 0) dX1_readBlank_14
/-! ClosedStreets$PlanReader.readNumber -/
abbrev rmX1_readNumber : Room := { frames := 2, cells := 0, slots := 0, locals := 80 }
def B1_readNumber_4 (n : Nat) : Nat → Int32 → Int32 → qSt → Option (Int32 × qSt)
  | 0, _, _, _ => none
  | n9 + 1, v2, v3, S => if 2 ≤ v3 then (some (v2, S)) else (ob1 (F4_digitAt (S 4 4) S) fun r2 => if r2 = (-999) then (some (v2, S)) else (ob1 (F4_digitAt (S 4 4) S) fun r4 => obs (qup S 4 4 ((S 4 4) + 1)) fun S5 => (B1_readNumber_4 n n9) ((10 * v2) + r4) (v3 + 1) S5))
set_option maxRecDepth 100000 in
set_option maxHeartbeats 4000000 in
theorem W1_readNumber_4 {r : Int32} {S2 : qSt} (C : qC g cX1_readNumber RX1 4 p s m meth c) (hr : meth.sig.returnType = (some .int)) (n : Nat) : ∀ (n9 : Nat) (v2 : Int32) (v3 : Int32) (S : qSt), B1_readNumber_4 n n9 v2 v3 S = some (r, S2) → qR g NL qT 4 p l e rmX1_readNumber s m args below meth c 0 0 (MQ below (qQi g NL qT (qmem g S2) r) args s 0 0 (qA g)) (qmem g S) 4 [(0, .ref (qa g 4)), (1, .ref (qa g 1)), (2, .int v2), (3, .int v3)] [] := by
  intro n9
  induction n9 with
  | zero =>
    intro v2 v3 S h
    have h9 : (none : Option (Int32 × qSt)) = some (r, S2) := h
    cases h9
  | succ n9 ih =>
    intro v2 v3 S h
    rw [B1_readNumber_4] at h
    refine q_iload_n C 3 dX1_readNumber_4 rfl rfl ?_
    refine q_iconst (v := 2) C dX1_readNumber_5 (by decide) ?_
    refine q_icmp_ge (tgt := 53) C h dX1_readNumber_6 (by decide) (fun h => ?_) (fun h => ?_)
    · refine q_iload_n C 2 dX1_readNumber_53 rfl rfl ?_
      obtain ⟨rfl, rfl⟩ := Prod.mk.inj (Option.some.inj h)
      exact q_iret C hr (Nat.le_refl 0) (Nat.le_refl 0) dX1_readNumber_54
    · refine q_aload_n C 1 dX1_readNumber_9 rfl rfl ?_
      refine q_aload_n C 0 dX1_readNumber_10 rfl rfl ?_
      refine s_geti C lf1_25 ltp_4 kd_4 dX1_readNumber_11 ?_
      obtain ⟨r2, hc1, h⟩ := ob1_e h
      refine q_callVi0 C ltp_1 (qmem_o kd_1 (Nat.le_of_ble_eq_true rfl)) rfl rfl (kX4_digitAt (S 4 4) S hc1) lm1_56 rfl (rest := []) rfl (Nat.le_of_ble_eq_true rfl) dX1_readNumber_14 ⟨rfl, rfl, Nat.le_of_ble_eq_true rfl, Nat.le_of_ble_eq_true rfl, Nat.le_of_ble_eq_true rfl, Nat.le_of_ble_eq_true rfl⟩ ?_
      refine q_sipush (v := (-999)) C dX1_readNumber_17 (by decide) ?_
      refine q_icmp_eq (tgt := 53) C h dX1_readNumber_20 (by decide) (fun h => ?_) (fun h => ?_)
      · refine q_iload_n C 2 dX1_readNumber_53 rfl rfl ?_
        obtain ⟨rfl, rfl⟩ := Prod.mk.inj (Option.some.inj h)
        exact q_iret C hr (Nat.le_refl 0) (Nat.le_refl 0) dX1_readNumber_54
      · refine q_bipush (v := 10) C dX1_readNumber_23 (by decide) ?_
        refine q_iload_n C 2 dX1_readNumber_25 rfl rfl ?_
        refine q_imul C dX1_readNumber_26 ?_
        refine q_aload_n C 1 dX1_readNumber_27 rfl rfl ?_
        refine q_aload_n C 0 dX1_readNumber_28 rfl rfl ?_
        refine s_geti C lf1_25 ltp_4 kd_4 dX1_readNumber_29 ?_
        obtain ⟨r4, hc3, h⟩ := ob1_e h
        refine q_callVi0 C ltp_1 (qmem_o kd_1 (Nat.le_of_ble_eq_true rfl)) rfl rfl (kX4_digitAt (S 4 4) S hc3) lm1_56 rfl (rest := [.int (10 * v2)]) rfl (Nat.le_of_ble_eq_true rfl) dX1_readNumber_32 ⟨rfl, rfl, Nat.le_of_ble_eq_true rfl, Nat.le_of_ble_eq_true rfl, Nat.le_of_ble_eq_true rfl, Nat.le_of_ble_eq_true rfl⟩ ?_
        refine q_iadd C dX1_readNumber_35 ?_
        refine q_istore_n C (lv' := [(2, .int ((10 * v2) + r4)), (0, .ref (qa g 4)), (1, .ref (qa g 1)), (3, .int v3)]) dX1_readNumber_36 rfl (by decide) rfl ?_
        refine q_norm [1, 2, 0, 3] rfl ?_
        refine q_aload_n C 0 dX1_readNumber_37 rfl rfl ?_
        refine q_dup C dX1_readNumber_38 rfl ?_
        refine s_geti C lf1_25 ltp_4 kd_4 dX1_readNumber_39 ?_
        refine q_iconst (v := 1) C dX1_readNumber_42 (by decide) ?_
        refine q_iadd C dX1_readNumber_43 ?_
        obtain ⟨S5, hS5, h⟩ := obs_e h
        refine s_puti C lf1_25 ltp_4 kd_4 dX1_readNumber_44 ?_
        rw [← hS5]
        refine q_iinc C 3 (v := v3 + 1) (lv' := [(3, .int (v3 + 1)), (0, .ref (qa g 4)), (1, .ref (qa g 1)), (2, .int ((10 * v2) + r4))]) dX1_readNumber_47 rfl rfl (by decide) rfl ?_
        refine q_norm [1, 2, 3, 0] rfl ?_
        refine q_goto (tgt := 4) C dX1_readNumber_50 (by decide) ?_
        exact ih ((10 * v2) + r4) (v3 + 1) S5 h
def F1_readNumber (n : Nat) (S : qSt) : Option (Int32 × qSt) := B1_readNumber_4 n n 0 0 S
set_option maxRecDepth 100000 in
set_option maxHeartbeats 4000000 in
theorem kX1_readNumber {l : Launch} {g : qG} (n : Nat) (S : qSt) {r : Int32} {S2 : qSt} (h : F1_readNumber n S = some (r, S2)) : Met l yX1_readNumber [.code yX1_readNumber cX1_readNumber 4 (some .int)] rmX1_readNumber (qPc g NL qT (qmem g S) [.ref (qa g 4), .ref (qa g 1)]) (qQi g NL qT (qmem g S2) r) 0 0 (qA g) := by
  refine q_met (by decide) (Nat.le_of_ble_eq_true rfl) (fun p e s m args below meth c C hr _ => ?_)
  have C : qC g cX1_readNumber RX1 4 p s m meth c := C
  show qR g NL qT 4 p l e rmX1_readNumber s m args below meth c 0 0 (MQ below (qQi g NL qT (qmem g S2) r) args s 0 0 (qA g)) (qmem g S) 0 [(0, .ref (qa g 4)), (1, .ref (qa g 1))] []
  unfold F1_readNumber at h
  refine q_iconst (v := 0) C dX1_readNumber_0 (by decide) ?_
  refine q_istore_n C (lv' := [(2, .int 0), (0, .ref (qa g 4)), (1, .ref (qa g 1))]) dX1_readNumber_1 rfl (by decide) rfl ?_
  refine q_norm [1, 2, 0] rfl ?_
  refine q_iconst (v := 0) C dX1_readNumber_2 (by decide) ?_
  refine q_istore_n C (lv' := [(3, .int 0), (0, .ref (qa g 4)), (1, .ref (qa g 1)), (2, .int 0)]) dX1_readNumber_3 rfl (by decide) rfl ?_
  refine q_norm [1, 2, 3, 0] rfl ?_
  exact W1_readNumber_4 C hr n n 0 0 S h
/-! ClosedStreets$TownReader.readHead -/
abbrev rmX6_readHead : Room := { frames := 2, cells := 0, slots := 0, locals := 80 }
def F6_readHead (a2 : Nat) (S : qSt) : Option (Int32 × qSt) := ob1 (F4_codeAt (S 3 0) S) fun r2 => if r2 = 84 then (obs (qup S 3 0 ((S 3 0) + 1)) fun S3 => ob1 (F4_digitAt (S3 3 0) S3) fun r5 => if r5 < 2 then (some (0, S3)) else (if r5 ≤ 9 then (obs (qup S3 3 0 ((S3 3 0) + 1)) fun S6 => ob1 (F4_digitAt (S6 3 0) S6) fun r8 => if r8 < 0 then (some (0, S6)) else (if r8 < r5 then (obs (qup S6 3 0 ((S6 3 0) + 1)) fun S9 => ob1 (F4_digitAt (S9 3 0) S9) fun r11 => if r11 < 0 then (some (0, S9)) else (if r5 ≤ r11 then (some (0, S9)) else (if ¬ r11 = r8 then (obs (qup S9 3 0 ((S9 3 0) + 1)) fun S12 => ob1 (F5_beginWith a2 r5 r8 r11 S12) fun S14 => some (1, S14)) else (some (0, S9))))) else (some (0, S6)))) else (some (0, S3)))) else (some (0, S))
set_option maxRecDepth 100000 in
set_option maxHeartbeats 4000000 in
theorem kX6_readHead {l : Launch} {g : qG} (a2 : Nat) (ha2 : tyT a2) (S : qSt) {r : Int32} {S2 : qSt} (h : F6_readHead a2 S = some (r, S2)) : Met l yX6_readHead [.code yX6_readHead cX6_readHead 6 (some .boolean)] rmX6_readHead (qPc g NL qT (qmem g S) [.ref (qa g 3), .ref (qa g 1), .ref (qa g a2)]) (qQi g NL qT (qmem g S2) r) 0 0 (qA g) := by
  refine q_met (by decide) (Nat.le_of_ble_eq_true rfl) (fun p e s m args below meth c C hr _ => ?_)
  have C : qC g cX6_readHead RX6 6 p s m meth c := C
  show qR g NL qT 6 p l e rmX6_readHead s m args below meth c 0 0 (MQ below (qQi g NL qT (qmem g S2) r) args s 0 0 (qA g)) (qmem g S) 0 [(0, .ref (qa g 3)), (1, .ref (qa g 1)), (2, .ref (qa g a2))] []
  unfold F6_readHead at h
  refine q_aload_n C 1 dX6_readHead_0 rfl rfl ?_
  refine q_aload_n C 0 dX6_readHead_1 rfl rfl ?_
  refine s_geti C lf6_9 ltp_3 kd_3 dX6_readHead_2 ?_
  obtain ⟨r2, hc1, h⟩ := ob1_e h
  refine q_callVi0 C ltp_1 (qmem_o kd_1 (Nat.le_of_ble_eq_true rfl)) rfl rfl (kX4_codeAt (S 3 0) S hc1) lm6_27 rfl (rest := []) rfl (Nat.le_of_ble_eq_true rfl) dX6_readHead_5 ⟨rfl, rfl, Nat.le_of_ble_eq_true rfl, Nat.le_of_ble_eq_true rfl, Nat.le_of_ble_eq_true rfl, Nat.le_of_ble_eq_true rfl⟩ ?_
  refine q_bipush (v := 84) C dX6_readHead_8 (by decide) ?_
  refine q_icmp_eq (tgt := 15) C h dX6_readHead_10 (by decide) (fun h => ?_) (fun h => ?_)
  · refine q_aload_n C 0 dX6_readHead_15 rfl rfl ?_
    refine q_dup C dX6_readHead_16 rfl ?_
    refine s_geti C lf6_9 ltp_3 kd_3 dX6_readHead_17 ?_
    refine q_iconst (v := 1) C dX6_readHead_20 (by decide) ?_
    refine q_iadd C dX6_readHead_21 ?_
    obtain ⟨S3, hS3, h⟩ := obs_e h
    refine s_puti C lf6_9 ltp_3 kd_3 dX6_readHead_22 ?_
    rw [← hS3]
    refine q_aload_n C 1 dX6_readHead_25 rfl rfl ?_
    refine q_aload_n C 0 dX6_readHead_26 rfl rfl ?_
    refine s_geti C lf6_9 ltp_3 kd_3 dX6_readHead_27 ?_
    obtain ⟨r5, hc4, h⟩ := ob1_e h
    refine q_callVi0 C ltp_1 (qmem_o kd_1 (Nat.le_of_ble_eq_true rfl)) rfl rfl (kX4_digitAt (S3 3 0) S3 hc4) lm6_31 rfl (rest := []) rfl (Nat.le_of_ble_eq_true rfl) dX6_readHead_30 ⟨rfl, rfl, Nat.le_of_ble_eq_true rfl, Nat.le_of_ble_eq_true rfl, Nat.le_of_ble_eq_true rfl, Nat.le_of_ble_eq_true rfl⟩ ?_
    refine q_istore_n C (lv' := [(3, .int r5), (0, .ref (qa g 3)), (1, .ref (qa g 1)), (2, .ref (qa g a2))]) dX6_readHead_33 rfl (by decide) rfl ?_
    refine q_norm [1, 2, 3, 0] rfl ?_
    refine q_iload_n C 3 dX6_readHead_34 rfl rfl ?_
    refine q_iconst (v := 2) C dX6_readHead_35 (by decide) ?_
    refine q_icmp_lt (tgt := 45) C h dX6_readHead_36 (by decide) (fun h => ?_) (fun h => ?_)
    · refine q_iconst (v := 0) C dX6_readHead_45 (by decide) ?_
      obtain ⟨rfl, rfl⟩ := Prod.mk.inj (Option.some.inj h)
      exact q_zret C hr (by decide) (Nat.le_refl 0) (Nat.le_refl 0) dX6_readHead_46
    · refine q_iload_n C 3 dX6_readHead_39 rfl rfl ?_
      refine q_bipush (v := 9) C dX6_readHead_40 (by decide) ?_
      refine q_icmp_le (tgt := 47) C h dX6_readHead_42 (by decide) (fun h => ?_) (fun h => ?_)
      · refine q_aload_n C 0 dX6_readHead_47 rfl rfl ?_
        refine q_dup C dX6_readHead_48 rfl ?_
        refine s_geti C lf6_9 ltp_3 kd_3 dX6_readHead_49 ?_
        refine q_iconst (v := 1) C dX6_readHead_52 (by decide) ?_
        refine q_iadd C dX6_readHead_53 ?_
        obtain ⟨S6, hS6, h⟩ := obs_e h
        refine s_puti C lf6_9 ltp_3 kd_3 dX6_readHead_54 ?_
        rw [← hS6]
        refine q_aload_n C 1 dX6_readHead_57 rfl rfl ?_
        refine q_aload_n C 0 dX6_readHead_58 rfl rfl ?_
        refine s_geti C lf6_9 ltp_3 kd_3 dX6_readHead_59 ?_
        obtain ⟨r8, hc7, h⟩ := ob1_e h
        refine q_callVi0 C ltp_1 (qmem_o kd_1 (Nat.le_of_ble_eq_true rfl)) rfl rfl (kX4_digitAt (S6 3 0) S6 hc7) lm6_31 rfl (rest := []) rfl (Nat.le_of_ble_eq_true rfl) dX6_readHead_62 ⟨rfl, rfl, Nat.le_of_ble_eq_true rfl, Nat.le_of_ble_eq_true rfl, Nat.le_of_ble_eq_true rfl, Nat.le_of_ble_eq_true rfl⟩ ?_
        refine q_istore C (lv' := [(4, .int r8), (0, .ref (qa g 3)), (1, .ref (qa g 1)), (2, .ref (qa g a2)), (3, .int r5)]) dX6_readHead_65 (by decide) rfl ?_
        refine q_norm [1, 2, 3, 4, 0] rfl ?_
        refine q_iload C 4 dX6_readHead_67 rfl ?_
        refine q_if_lt (tgt := 78) C h dX6_readHead_69 (by decide) (fun h => ?_) (fun h => ?_)
        · refine q_iconst (v := 0) C dX6_readHead_78 (by decide) ?_
          obtain ⟨rfl, rfl⟩ := Prod.mk.inj (Option.some.inj h)
          exact q_zret C hr (by decide) (Nat.le_refl 0) (Nat.le_refl 0) dX6_readHead_79
        · refine q_iload C 4 dX6_readHead_72 rfl ?_
          refine q_iload_n C 3 dX6_readHead_74 rfl rfl ?_
          refine q_icmp_lt (tgt := 80) C h dX6_readHead_75 (by decide) (fun h => ?_) (fun h => ?_)
          · refine q_aload_n C 0 dX6_readHead_80 rfl rfl ?_
            refine q_dup C dX6_readHead_81 rfl ?_
            refine s_geti C lf6_9 ltp_3 kd_3 dX6_readHead_82 ?_
            refine q_iconst (v := 1) C dX6_readHead_85 (by decide) ?_
            refine q_iadd C dX6_readHead_86 ?_
            obtain ⟨S9, hS9, h⟩ := obs_e h
            refine s_puti C lf6_9 ltp_3 kd_3 dX6_readHead_87 ?_
            rw [← hS9]
            refine q_aload_n C 1 dX6_readHead_90 rfl rfl ?_
            refine q_aload_n C 0 dX6_readHead_91 rfl rfl ?_
            refine s_geti C lf6_9 ltp_3 kd_3 dX6_readHead_92 ?_
            obtain ⟨r11, hc10, h⟩ := ob1_e h
            refine q_callVi0 C ltp_1 (qmem_o kd_1 (Nat.le_of_ble_eq_true rfl)) rfl rfl (kX4_digitAt (S9 3 0) S9 hc10) lm6_31 rfl (rest := []) rfl (Nat.le_of_ble_eq_true rfl) dX6_readHead_95 ⟨rfl, rfl, Nat.le_of_ble_eq_true rfl, Nat.le_of_ble_eq_true rfl, Nat.le_of_ble_eq_true rfl, Nat.le_of_ble_eq_true rfl⟩ ?_
            refine q_istore C (lv' := [(5, .int r11), (0, .ref (qa g 3)), (1, .ref (qa g 1)), (2, .ref (qa g a2)), (3, .int r5), (4, .int r8)]) dX6_readHead_98 (by decide) rfl ?_
            refine q_norm [1, 2, 3, 4, 5, 0] rfl ?_
            refine q_iload C 5 dX6_readHead_100 rfl ?_
            refine q_if_lt (tgt := 118) C h dX6_readHead_102 (by decide) (fun h => ?_) (fun h => ?_)
            · refine q_iconst (v := 0) C dX6_readHead_118 (by decide) ?_
              obtain ⟨rfl, rfl⟩ := Prod.mk.inj (Option.some.inj h)
              exact q_zret C hr (by decide) (Nat.le_refl 0) (Nat.le_refl 0) dX6_readHead_119
            · refine q_iload C 5 dX6_readHead_105 rfl ?_
              refine q_iload_n C 3 dX6_readHead_107 rfl rfl ?_
              refine q_icmp_ge (tgt := 118) C h dX6_readHead_108 (by decide) (fun h => ?_) (fun h => ?_)
              · refine q_iconst (v := 0) C dX6_readHead_118 (by decide) ?_
                obtain ⟨rfl, rfl⟩ := Prod.mk.inj (Option.some.inj h)
                exact q_zret C hr (by decide) (Nat.le_refl 0) (Nat.le_refl 0) dX6_readHead_119
              · refine q_iload C 5 dX6_readHead_111 rfl ?_
                refine q_iload C 4 dX6_readHead_113 rfl ?_
                refine q_icmp_ne (tgt := 120) C h dX6_readHead_115 (by decide) (fun h => ?_) (fun h => ?_)
                · refine q_aload_n C 0 dX6_readHead_120 rfl rfl ?_
                  refine q_dup C dX6_readHead_121 rfl ?_
                  refine s_geti C lf6_9 ltp_3 kd_3 dX6_readHead_122 ?_
                  refine q_iconst (v := 1) C dX6_readHead_125 (by decide) ?_
                  refine q_iadd C dX6_readHead_126 ?_
                  obtain ⟨S12, hS12, h⟩ := obs_e h
                  refine s_puti C lf6_9 ltp_3 kd_3 dX6_readHead_127 ?_
                  rw [← hS12]
                  refine q_aload_n C 2 dX6_readHead_130 rfl rfl ?_
                  refine q_iload_n C 3 dX6_readHead_131 rfl rfl ?_
                  refine q_iload C 4 dX6_readHead_132 rfl ?_
                  refine q_iload C 5 dX6_readHead_134 rfl ?_
                  obtain ⟨S14, hc13, h⟩ := ob1_e h
                  refine q_callVv0 C ha2.l0 (qmem_o ha2.k0 (Nat.le_of_ble_eq_true rfl)) rfl rfl (kX5_beginWith a2 (ha2) r5 r8 r11 S12 hc13) lm6_34 rfl (rest := []) rfl (Nat.le_of_ble_eq_true rfl) dX6_readHead_136 ⟨rfl, rfl, Nat.le_of_ble_eq_true rfl, Nat.le_of_ble_eq_true rfl, Nat.le_of_ble_eq_true rfl, Nat.le_of_ble_eq_true rfl⟩ ?_
                  refine q_iconst (v := 1) C dX6_readHead_139 (by decide) ?_
                  obtain ⟨rfl, rfl⟩ := Prod.mk.inj (Option.some.inj h)
                  exact q_zret C hr (by decide) (Nat.le_refl 0) (Nat.le_refl 0) dX6_readHead_140
                · refine q_iconst (v := 0) C dX6_readHead_118 (by decide) ?_
                  obtain ⟨rfl, rfl⟩ := Prod.mk.inj (Option.some.inj h)
                  exact q_zret C hr (by decide) (Nat.le_refl 0) (Nat.le_refl 0) dX6_readHead_119
          · refine q_iconst (v := 0) C dX6_readHead_78 (by decide) ?_
            obtain ⟨rfl, rfl⟩ := Prod.mk.inj (Option.some.inj h)
            exact q_zret C hr (by decide) (Nat.le_refl 0) (Nat.le_refl 0) dX6_readHead_79
      · refine q_iconst (v := 0) C dX6_readHead_45 (by decide) ?_
        obtain ⟨rfl, rfl⟩ := Prod.mk.inj (Option.some.inj h)
        exact q_zret C hr (by decide) (Nat.le_refl 0) (Nat.le_refl 0) dX6_readHead_46
  · refine q_iconst (v := 0) C dX6_readHead_13 (by decide) ?_
    obtain ⟨rfl, rfl⟩ := Prod.mk.inj (Option.some.inj h)
    exact q_zret C hr (by decide) (Nat.le_refl 0) (Nat.le_refl 0) dX6_readHead_14
/-! ClosedStreets$TownReader.readStreet -/
abbrev rmX6_readStreet : Room := { frames := 4, cells := 0, slots := 0, locals := 160 }
def F6_readStreet (n : Nat) (a2 : Nat) (S : qSt) : Option (Int32 × qSt) := ob1 (F4_codeAt (S 3 0) S) fun r2 => if ¬ r2 = 115 then (some (0, S)) else (if (F5_takesNoStreet a2 S) = 0 then (obs (qup S 3 0 ((S 3 0) + 1)) fun S3 => ob1 (F4_digitAt (S3 3 0) S3) fun r5 => if (F5_hasCrossing a2 r5 S3) = 0 then (some (0, S3)) else (ob1 (F5_isJoinedWithAllOthers n a2 r5 S3) fun r7 => if r7 = 0 then (obs (qup S3 3 0 ((S3 3 0) + 1)) fun S8 => ob1 (F4_digitAt (S8 3 0) S8) fun r10 => if (F5_hasCrossing a2 r10 S8) = 0 then (some (0, S8)) else (if r5 = r10 then (some (0, S8)) else (ob1 (F5_streetJoining n a2 r5 r10 S8) fun r12 => if r12 = (-999) then (obs (qup S8 3 0 ((S8 3 0) + 1)) fun S13 => ob1 (F4_digitAt (S13 3 0) S13) fun r15 => if ¬ r15 = (-999) then (obs (qup S13 3 0 ((S13 3 0) + 1)) fun S16 => ob1 (F4_digitAt (S16 3 0) S16) fun r18 => if r18 = (-999) then (some (0, S16)) else (if ¬ (r15 + r18) = 0 then (obs (qup S16 3 0 ((S16 3 0) + 1)) fun S19 => ob2 (F5_join n a2 r5 r10 ((10 * r15) + r18) S19) fun r21 S22 => ob1 (F4_codeAt (S22 3 0) S22) fun r24 => if ¬ r24 = 120 then (some (1, S22)) else (obs (qup S22 3 0 ((S22 3 0) + 1)) fun S25 => ob2 (F5_shut a2 ((S25 a2 1) - 1) 1 S25) fun r27 S28 => some (1, S28))) else (some (0, S16)))) else (some (0, S13))) else (some (0, S8))))) else (some (0, S3)))) else (some (0, S)))
set_option maxRecDepth 100000 in
set_option maxHeartbeats 4000000 in
theorem kX6_readStreet {l : Launch} {g : qG} (n : Nat) (a2 : Nat) (ha2 : tyT a2) (S : qSt) {r : Int32} {S2 : qSt} (h : F6_readStreet n a2 S = some (r, S2)) : Met l yX6_readStreet [.code yX6_readStreet cX6_readStreet 7 (some .boolean)] rmX6_readStreet (qPc g NL qT (qmem g S) [.ref (qa g 3), .ref (qa g 1), .ref (qa g a2)]) (qQi g NL qT (qmem g S2) r) 0 0 (qA g) := by
  refine q_met (by decide) (Nat.le_of_ble_eq_true rfl) (fun p e s m args below meth c C hr _ => ?_)
  have C : qC g cX6_readStreet RX6 7 p s m meth c := C
  show qR g NL qT 7 p l e rmX6_readStreet s m args below meth c 0 0 (MQ below (qQi g NL qT (qmem g S2) r) args s 0 0 (qA g)) (qmem g S) 0 [(0, .ref (qa g 3)), (1, .ref (qa g 1)), (2, .ref (qa g a2))] []
  unfold F6_readStreet at h
  refine q_aload_n C 1 dX6_readStreet_0 rfl rfl ?_
  refine q_aload_n C 0 dX6_readStreet_1 rfl rfl ?_
  refine s_geti C lf6_9 ltp_3 kd_3 dX6_readStreet_2 ?_
  obtain ⟨r2, hc1, h⟩ := ob1_e h
  refine q_callVi0 C ltp_1 (qmem_o kd_1 (Nat.le_of_ble_eq_true rfl)) rfl rfl (kX4_codeAt (S 3 0) S hc1) lm6_27 rfl (rest := []) rfl (Nat.le_of_ble_eq_true rfl) dX6_readStreet_5 ⟨rfl, rfl, Nat.le_of_ble_eq_true rfl, Nat.le_of_ble_eq_true rfl, Nat.le_of_ble_eq_true rfl, Nat.le_of_ble_eq_true rfl⟩ ?_
  refine q_bipush (v := 115) C dX6_readStreet_8 (by decide) ?_
  refine q_icmp_ne (tgt := 20) C h dX6_readStreet_10 (by decide) (fun h => ?_) (fun h => ?_)
  · refine q_iconst (v := 0) C dX6_readStreet_20 (by decide) ?_
    obtain ⟨rfl, rfl⟩ := Prod.mk.inj (Option.some.inj h)
    exact q_zret C hr (by decide) (Nat.le_refl 0) (Nat.le_refl 0) dX6_readStreet_21
  · refine q_aload_n C 2 dX6_readStreet_13 rfl rfl ?_
    refine q_callVi0 C ha2.l0 (qmem_o ha2.k0 (Nat.le_of_ble_eq_true rfl)) rfl rfl (kX5_takesNoStreet a2 (ha2) S) lm6_40 rfl (rest := []) rfl (Nat.le_of_ble_eq_true rfl) dX6_readStreet_14 ⟨rfl, rfl, Nat.le_of_ble_eq_true rfl, Nat.le_of_ble_eq_true rfl, Nat.le_of_ble_eq_true rfl, Nat.le_of_ble_eq_true rfl⟩ ?_
    refine q_if_eq (tgt := 22) C h dX6_readStreet_17 (by decide) (fun h => ?_) (fun h => ?_)
    · refine q_aload_n C 0 dX6_readStreet_22 rfl rfl ?_
      refine q_dup C dX6_readStreet_23 rfl ?_
      refine s_geti C lf6_9 ltp_3 kd_3 dX6_readStreet_24 ?_
      refine q_iconst (v := 1) C dX6_readStreet_27 (by decide) ?_
      refine q_iadd C dX6_readStreet_28 ?_
      obtain ⟨S3, hS3, h⟩ := obs_e h
      refine s_puti C lf6_9 ltp_3 kd_3 dX6_readStreet_29 ?_
      rw [← hS3]
      refine q_aload_n C 1 dX6_readStreet_32 rfl rfl ?_
      refine q_aload_n C 0 dX6_readStreet_33 rfl rfl ?_
      refine s_geti C lf6_9 ltp_3 kd_3 dX6_readStreet_34 ?_
      obtain ⟨r5, hc4, h⟩ := ob1_e h
      refine q_callVi0 C ltp_1 (qmem_o kd_1 (Nat.le_of_ble_eq_true rfl)) rfl rfl (kX4_digitAt (S3 3 0) S3 hc4) lm6_31 rfl (rest := []) rfl (Nat.le_of_ble_eq_true rfl) dX6_readStreet_37 ⟨rfl, rfl, Nat.le_of_ble_eq_true rfl, Nat.le_of_ble_eq_true rfl, Nat.le_of_ble_eq_true rfl, Nat.le_of_ble_eq_true rfl⟩ ?_
      refine q_istore_n C (lv' := [(3, .int r5), (0, .ref (qa g 3)), (1, .ref (qa g 1)), (2, .ref (qa g a2))]) dX6_readStreet_40 rfl (by decide) rfl ?_
      refine q_norm [1, 2, 3, 0] rfl ?_
      refine q_aload_n C 2 dX6_readStreet_41 rfl rfl ?_
      refine q_iload_n C 3 dX6_readStreet_42 rfl rfl ?_
      refine q_callVi0 C ha2.l0 (qmem_o ha2.k0 (Nat.le_of_ble_eq_true rfl)) rfl rfl (kX5_hasCrossing a2 (ha2) r5 S3) lm6_44 rfl (rest := []) rfl (Nat.le_of_ble_eq_true rfl) dX6_readStreet_43 ⟨rfl, rfl, Nat.le_of_ble_eq_true rfl, Nat.le_of_ble_eq_true rfl, Nat.le_of_ble_eq_true rfl, Nat.le_of_ble_eq_true rfl⟩ ?_
      refine q_if_eq (tgt := 57) C h dX6_readStreet_46 (by decide) (fun h => ?_) (fun h => ?_)
      · refine q_iconst (v := 0) C dX6_readStreet_57 (by decide) ?_
        obtain ⟨rfl, rfl⟩ := Prod.mk.inj (Option.some.inj h)
        exact q_zret C hr (by decide) (Nat.le_refl 0) (Nat.le_refl 0) dX6_readStreet_58
      · refine q_aload_n C 2 dX6_readStreet_49 rfl rfl ?_
        refine q_iload_n C 3 dX6_readStreet_50 rfl rfl ?_
        obtain ⟨r7, hc6, h⟩ := ob1_e h
        refine q_callVi0 C ha2.l0 (qmem_o ha2.k0 (Nat.le_of_ble_eq_true rfl)) rfl rfl (kX5_isJoinedWithAllOthers n a2 (ha2) r5 S3 hc6) lm6_48 rfl (rest := []) rfl (Nat.le_of_ble_eq_true rfl) dX6_readStreet_51 ⟨rfl, rfl, Nat.le_of_ble_eq_true rfl, Nat.le_of_ble_eq_true rfl, Nat.le_of_ble_eq_true rfl, Nat.le_of_ble_eq_true rfl⟩ ?_
        refine q_if_eq (tgt := 59) C h dX6_readStreet_54 (by decide) (fun h => ?_) (fun h => ?_)
        · refine q_aload_n C 0 dX6_readStreet_59 rfl rfl ?_
          refine q_dup C dX6_readStreet_60 rfl ?_
          refine s_geti C lf6_9 ltp_3 kd_3 dX6_readStreet_61 ?_
          refine q_iconst (v := 1) C dX6_readStreet_64 (by decide) ?_
          refine q_iadd C dX6_readStreet_65 ?_
          obtain ⟨S8, hS8, h⟩ := obs_e h
          refine s_puti C lf6_9 ltp_3 kd_3 dX6_readStreet_66 ?_
          rw [← hS8]
          refine q_aload_n C 1 dX6_readStreet_69 rfl rfl ?_
          refine q_aload_n C 0 dX6_readStreet_70 rfl rfl ?_
          refine s_geti C lf6_9 ltp_3 kd_3 dX6_readStreet_71 ?_
          obtain ⟨r10, hc9, h⟩ := ob1_e h
          refine q_callVi0 C ltp_1 (qmem_o kd_1 (Nat.le_of_ble_eq_true rfl)) rfl rfl (kX4_digitAt (S8 3 0) S8 hc9) lm6_31 rfl (rest := []) rfl (Nat.le_of_ble_eq_true rfl) dX6_readStreet_74 ⟨rfl, rfl, Nat.le_of_ble_eq_true rfl, Nat.le_of_ble_eq_true rfl, Nat.le_of_ble_eq_true rfl, Nat.le_of_ble_eq_true rfl⟩ ?_
          refine q_istore C (lv' := [(4, .int r10), (0, .ref (qa g 3)), (1, .ref (qa g 1)), (2, .ref (qa g a2)), (3, .int r5)]) dX6_readStreet_77 (by decide) rfl ?_
          refine q_norm [1, 2, 3, 4, 0] rfl ?_
          refine q_aload_n C 2 dX6_readStreet_79 rfl rfl ?_
          refine q_iload C 4 dX6_readStreet_80 rfl ?_
          refine q_callVi0 C ha2.l0 (qmem_o ha2.k0 (Nat.le_of_ble_eq_true rfl)) rfl rfl (kX5_hasCrossing a2 (ha2) r10 S8) lm6_44 rfl (rest := []) rfl (Nat.le_of_ble_eq_true rfl) dX6_readStreet_82 ⟨rfl, rfl, Nat.le_of_ble_eq_true rfl, Nat.le_of_ble_eq_true rfl, Nat.le_of_ble_eq_true rfl, Nat.le_of_ble_eq_true rfl⟩ ?_
          refine q_if_eq (tgt := 107) C h dX6_readStreet_85 (by decide) (fun h => ?_) (fun h => ?_)
          · refine q_iconst (v := 0) C dX6_readStreet_107 (by decide) ?_
            obtain ⟨rfl, rfl⟩ := Prod.mk.inj (Option.some.inj h)
            exact q_zret C hr (by decide) (Nat.le_refl 0) (Nat.le_refl 0) dX6_readStreet_108
          · refine q_iload_n C 3 dX6_readStreet_88 rfl rfl ?_
            refine q_iload C 4 dX6_readStreet_89 rfl ?_
            refine q_icmp_eq (tgt := 107) C h dX6_readStreet_91 (by decide) (fun h => ?_) (fun h => ?_)
            · refine q_iconst (v := 0) C dX6_readStreet_107 (by decide) ?_
              obtain ⟨rfl, rfl⟩ := Prod.mk.inj (Option.some.inj h)
              exact q_zret C hr (by decide) (Nat.le_refl 0) (Nat.le_refl 0) dX6_readStreet_108
            · refine q_aload_n C 2 dX6_readStreet_94 rfl rfl ?_
              refine q_iload_n C 3 dX6_readStreet_95 rfl rfl ?_
              refine q_iload C 4 dX6_readStreet_96 rfl ?_
              obtain ⟨r12, hc11, h⟩ := ob1_e h
              refine q_callVi0 C ha2.l0 (qmem_o ha2.k0 (Nat.le_of_ble_eq_true rfl)) rfl rfl (kX5_streetJoining n a2 (ha2) r5 r10 S8 hc11) lm6_51 rfl (rest := []) rfl (Nat.le_of_ble_eq_true rfl) dX6_readStreet_98 ⟨rfl, rfl, Nat.le_of_ble_eq_true rfl, Nat.le_of_ble_eq_true rfl, Nat.le_of_ble_eq_true rfl, Nat.le_of_ble_eq_true rfl⟩ ?_
              refine q_sipush (v := (-999)) C dX6_readStreet_101 (by decide) ?_
              refine q_icmp_eq (tgt := 109) C h dX6_readStreet_104 (by decide) (fun h => ?_) (fun h => ?_)
              · refine q_aload_n C 0 dX6_readStreet_109 rfl rfl ?_
                refine q_dup C dX6_readStreet_110 rfl ?_
                refine s_geti C lf6_9 ltp_3 kd_3 dX6_readStreet_111 ?_
                refine q_iconst (v := 1) C dX6_readStreet_114 (by decide) ?_
                refine q_iadd C dX6_readStreet_115 ?_
                obtain ⟨S13, hS13, h⟩ := obs_e h
                refine s_puti C lf6_9 ltp_3 kd_3 dX6_readStreet_116 ?_
                rw [← hS13]
                refine q_aload_n C 1 dX6_readStreet_119 rfl rfl ?_
                refine q_aload_n C 0 dX6_readStreet_120 rfl rfl ?_
                refine s_geti C lf6_9 ltp_3 kd_3 dX6_readStreet_121 ?_
                obtain ⟨r15, hc14, h⟩ := ob1_e h
                refine q_callVi0 C ltp_1 (qmem_o kd_1 (Nat.le_of_ble_eq_true rfl)) rfl rfl (kX4_digitAt (S13 3 0) S13 hc14) lm6_31 rfl (rest := []) rfl (Nat.le_of_ble_eq_true rfl) dX6_readStreet_124 ⟨rfl, rfl, Nat.le_of_ble_eq_true rfl, Nat.le_of_ble_eq_true rfl, Nat.le_of_ble_eq_true rfl, Nat.le_of_ble_eq_true rfl⟩ ?_
                refine q_istore C (lv' := [(5, .int r15), (0, .ref (qa g 3)), (1, .ref (qa g 1)), (2, .ref (qa g a2)), (3, .int r5), (4, .int r10)]) dX6_readStreet_127 (by decide) rfl ?_
                refine q_norm [1, 2, 3, 4, 5, 0] rfl ?_
                refine q_iload C 5 dX6_readStreet_129 rfl ?_
                refine q_sipush (v := (-999)) C dX6_readStreet_131 (by decide) ?_
                refine q_icmp_ne (tgt := 139) C h dX6_readStreet_134 (by decide) (fun h => ?_) (fun h => ?_)
                · refine q_aload_n C 0 dX6_readStreet_139 rfl rfl ?_
                  refine q_dup C dX6_readStreet_140 rfl ?_
                  refine s_geti C lf6_9 ltp_3 kd_3 dX6_readStreet_141 ?_
                  refine q_iconst (v := 1) C dX6_readStreet_144 (by decide) ?_
                  refine q_iadd C dX6_readStreet_145 ?_
                  obtain ⟨S16, hS16, h⟩ := obs_e h
                  refine s_puti C lf6_9 ltp_3 kd_3 dX6_readStreet_146 ?_
                  rw [← hS16]
                  refine q_aload_n C 1 dX6_readStreet_149 rfl rfl ?_
                  refine q_aload_n C 0 dX6_readStreet_150 rfl rfl ?_
                  refine s_geti C lf6_9 ltp_3 kd_3 dX6_readStreet_151 ?_
                  obtain ⟨r18, hc17, h⟩ := ob1_e h
                  refine q_callVi0 C ltp_1 (qmem_o kd_1 (Nat.le_of_ble_eq_true rfl)) rfl rfl (kX4_digitAt (S16 3 0) S16 hc17) lm6_31 rfl (rest := []) rfl (Nat.le_of_ble_eq_true rfl) dX6_readStreet_154 ⟨rfl, rfl, Nat.le_of_ble_eq_true rfl, Nat.le_of_ble_eq_true rfl, Nat.le_of_ble_eq_true rfl, Nat.le_of_ble_eq_true rfl⟩ ?_
                  refine q_istore C (lv' := [(6, .int r18), (0, .ref (qa g 3)), (1, .ref (qa g 1)), (2, .ref (qa g a2)), (3, .int r5), (4, .int r10), (5, .int r15)]) dX6_readStreet_157 (by decide) rfl ?_
                  refine q_norm [1, 2, 3, 4, 5, 6, 0] rfl ?_
                  refine q_iload C 6 dX6_readStreet_159 rfl ?_
                  refine q_sipush (v := (-999)) C dX6_readStreet_161 (by decide) ?_
                  refine q_icmp_eq (tgt := 175) C h dX6_readStreet_164 (by decide) (fun h => ?_) (fun h => ?_)
                  · refine q_iconst (v := 0) C dX6_readStreet_175 (by decide) ?_
                    obtain ⟨rfl, rfl⟩ := Prod.mk.inj (Option.some.inj h)
                    exact q_zret C hr (by decide) (Nat.le_refl 0) (Nat.le_refl 0) dX6_readStreet_176
                  · refine q_iload C 5 dX6_readStreet_167 rfl ?_
                    refine q_iload C 6 dX6_readStreet_169 rfl ?_
                    refine q_iadd C dX6_readStreet_171 ?_
                    refine q_if_ne (tgt := 177) C h dX6_readStreet_172 (by decide) (fun h => ?_) (fun h => ?_)
                    · refine q_aload_n C 0 dX6_readStreet_177 rfl rfl ?_
                      refine q_dup C dX6_readStreet_178 rfl ?_
                      refine s_geti C lf6_9 ltp_3 kd_3 dX6_readStreet_179 ?_
                      refine q_iconst (v := 1) C dX6_readStreet_182 (by decide) ?_
                      refine q_iadd C dX6_readStreet_183 ?_
                      obtain ⟨S19, hS19, h⟩ := obs_e h
                      refine s_puti C lf6_9 ltp_3 kd_3 dX6_readStreet_184 ?_
                      rw [← hS19]
                      refine q_aload_n C 2 dX6_readStreet_187 rfl rfl ?_
                      refine q_iload_n C 3 dX6_readStreet_188 rfl rfl ?_
                      refine q_iload C 4 dX6_readStreet_189 rfl ?_
                      refine q_bipush (v := 10) C dX6_readStreet_191 (by decide) ?_
                      refine q_iload C 5 dX6_readStreet_193 rfl ?_
                      refine q_imul C dX6_readStreet_195 ?_
                      refine q_iload C 6 dX6_readStreet_196 rfl ?_
                      refine q_iadd C dX6_readStreet_198 ?_
                      obtain ⟨r21, S22, hc20, h⟩ := ob2_e h
                      refine q_callVi0 C ha2.l0 (qmem_o ha2.k0 (Nat.le_of_ble_eq_true rfl)) rfl rfl (kX5_join n a2 (ha2) r5 r10 ((10 * r15) + r18) S19 hc20) lm6_55 rfl (rest := []) rfl (Nat.le_of_ble_eq_true rfl) dX6_readStreet_199 ⟨rfl, rfl, Nat.le_of_ble_eq_true rfl, Nat.le_of_ble_eq_true rfl, Nat.le_of_ble_eq_true rfl, Nat.le_of_ble_eq_true rfl⟩ ?_
                      refine q_pop C dX6_readStreet_202 rfl ?_
                      refine q_aload_n C 1 dX6_readStreet_203 rfl rfl ?_
                      refine q_aload_n C 0 dX6_readStreet_204 rfl rfl ?_
                      refine s_geti C lf6_9 ltp_3 kd_3 dX6_readStreet_205 ?_
                      obtain ⟨r24, hc23, h⟩ := ob1_e h
                      refine q_callVi0 C ltp_1 (qmem_o kd_1 (Nat.le_of_ble_eq_true rfl)) rfl rfl (kX4_codeAt (S22 3 0) S22 hc23) lm6_27 rfl (rest := []) rfl (Nat.le_of_ble_eq_true rfl) dX6_readStreet_208 ⟨rfl, rfl, Nat.le_of_ble_eq_true rfl, Nat.le_of_ble_eq_true rfl, Nat.le_of_ble_eq_true rfl, Nat.le_of_ble_eq_true rfl⟩ ?_
                      refine q_bipush (v := 120) C dX6_readStreet_211 (by decide) ?_
                      refine q_icmp_ne (tgt := 238) C h dX6_readStreet_213 (by decide) (fun h => ?_) (fun h => ?_)
                      · refine q_iconst (v := 1) C dX6_readStreet_238 (by decide) ?_
                        obtain ⟨rfl, rfl⟩ := Prod.mk.inj (Option.some.inj h)
                        exact q_zret C hr (by decide) (Nat.le_refl 0) (Nat.le_refl 0) dX6_readStreet_239
                      · refine q_aload_n C 0 dX6_readStreet_216 rfl rfl ?_
                        refine q_dup C dX6_readStreet_217 rfl ?_
                        refine s_geti C lf6_9 ltp_3 kd_3 dX6_readStreet_218 ?_
                        refine q_iconst (v := 1) C dX6_readStreet_221 (by decide) ?_
                        refine q_iadd C dX6_readStreet_222 ?_
                        obtain ⟨S25, hS25, h⟩ := obs_e h
                        refine s_puti C lf6_9 ltp_3 kd_3 dX6_readStreet_223 ?_
                        rw [← hS25]
                        refine q_aload_n C 2 dX6_readStreet_226 rfl rfl ?_
                        refine q_aload_n C 2 dX6_readStreet_227 rfl rfl ?_
                        refine s_geti C lf6_59 ha2.l0 ha2.k0 dX6_readStreet_228 ?_
                        refine q_iconst (v := 1) C dX6_readStreet_231 (by decide) ?_
                        refine q_isub C dX6_readStreet_232 ?_
                        refine q_iconst (v := 1) C dX6_readStreet_233 (by decide) ?_
                        obtain ⟨r27, S28, hc26, h⟩ := ob2_e h
                        refine q_callVi0 C ha2.l0 (qmem_o ha2.k0 (Nat.le_of_ble_eq_true rfl)) rfl rfl (kX5_shut a2 (ha2) ((S25 a2 1) - 1) 1 S25 hc26) lm6_62 rfl (rest := []) rfl (Nat.le_of_ble_eq_true rfl) dX6_readStreet_234 ⟨rfl, rfl, Nat.le_of_ble_eq_true rfl, Nat.le_of_ble_eq_true rfl, Nat.le_of_ble_eq_true rfl, Nat.le_of_ble_eq_true rfl⟩ ?_
                        refine q_pop C dX6_readStreet_237 rfl ?_
                        refine q_iconst (v := 1) C dX6_readStreet_238 (by decide) ?_
                        obtain ⟨rfl, rfl⟩ := Prod.mk.inj (Option.some.inj h)
                        exact q_zret C hr (by decide) (Nat.le_refl 0) (Nat.le_refl 0) dX6_readStreet_239
                    · refine q_iconst (v := 0) C dX6_readStreet_175 (by decide) ?_
                      obtain ⟨rfl, rfl⟩ := Prod.mk.inj (Option.some.inj h)
                      exact q_zret C hr (by decide) (Nat.le_refl 0) (Nat.le_refl 0) dX6_readStreet_176
                · refine q_iconst (v := 0) C dX6_readStreet_137 (by decide) ?_
                  obtain ⟨rfl, rfl⟩ := Prod.mk.inj (Option.some.inj h)
                  exact q_zret C hr (by decide) (Nat.le_refl 0) (Nat.le_refl 0) dX6_readStreet_138
              · refine q_iconst (v := 0) C dX6_readStreet_107 (by decide) ?_
                obtain ⟨rfl, rfl⟩ := Prod.mk.inj (Option.some.inj h)
                exact q_zret C hr (by decide) (Nat.le_refl 0) (Nat.le_refl 0) dX6_readStreet_108
        · refine q_iconst (v := 0) C dX6_readStreet_57 (by decide) ?_
          obtain ⟨rfl, rfl⟩ := Prod.mk.inj (Option.some.inj h)
          exact q_zret C hr (by decide) (Nat.le_refl 0) (Nat.le_refl 0) dX6_readStreet_58
    · refine q_iconst (v := 0) C dX6_readStreet_20 (by decide) ?_
      obtain ⟨rfl, rfl⟩ := Prod.mk.inj (Option.some.inj h)
      exact q_zret C hr (by decide) (Nat.le_refl 0) (Nat.le_refl 0) dX6_readStreet_21
/-! ClosedStreets$TownReader.errorIn -/
abbrev rmX6_errorIn : Room := { frames := 5, cells := 0, slots := 0, locals := 200 }
def B6_errorIn_47 (n : Nat) (a2 : Nat) (S : qSt) : Option (Int32 × qSt) := some (S 3 0, S)
set_option maxRecDepth 100000 in
set_option maxHeartbeats 4000000 in
theorem W6_errorIn_47 {r : Int32} {S2 : qSt} (C : qC g cX6_errorIn RX6 4 p s m meth c) (hr : meth.sig.returnType = (some .int)) (n : Nat) (a2 : Nat) (ha2 : tyT a2) (S : qSt) (h : B6_errorIn_47 n a2 S = some (r, S2)) : qR g NL qT 4 p l e rmX6_errorIn s m args below meth c 0 0 (MQ below (qQi g NL qT (qmem g S2) r) args s 0 0 (qA g)) (qmem g S) 47 [(0, .ref (qa g 3))] [] := by
  unfold B6_errorIn_47 at h
  refine q_aload_n C 0 dX6_errorIn_47 rfl rfl ?_
  refine s_geti C lf6_9 ltp_3 kd_3 dX6_errorIn_48 ?_
  obtain ⟨rfl, rfl⟩ := Prod.mk.inj (Option.some.inj h)
  exact q_iret C hr (Nat.le_refl 0) (Nat.le_refl 0) dX6_errorIn_51
def B6_errorIn_21 (n : Nat) (a2 : Nat) : Nat → Int32 → qSt → Option (Int32 × qSt)
  | 0, _, _ => none
  | n9 + 1, v3, S => if 20 < v3 then (some ((-999), S)) else (if (S 1 1) ≤ (S 3 0) then (some ((-999), S)) else (ob2 (F6_readStreet n a2 S) fun r6 S7 => if ¬ r6 = 0 then ((B6_errorIn_21 n a2 n9) (v3 + 1) S7) else (B6_errorIn_47 n a2 S7)))
set_option maxRecDepth 100000 in
set_option maxHeartbeats 4000000 in
theorem W6_errorIn_21 {r : Int32} {S2 : qSt} (C : qC g cX6_errorIn RX6 4 p s m meth c) (hr : meth.sig.returnType = (some .int)) (n : Nat) (a2 : Nat) (ha2 : tyT a2) : ∀ (n9 : Nat) (v3 : Int32) (S : qSt), B6_errorIn_21 n a2 n9 v3 S = some (r, S2) → qR g NL qT 4 p l e rmX6_errorIn s m args below meth c 0 0 (MQ below (qQi g NL qT (qmem g S2) r) args s 0 0 (qA g)) (qmem g S) 21 [(0, .ref (qa g 3)), (1, .ref (qa g 1)), (2, .ref (qa g a2)), (3, .int v3)] [] := by
  intro n9
  induction n9 with
  | zero =>
    intro v3 S h
    have h9 : (none : Option (Int32 × qSt)) = some (r, S2) := h
    cases h9
  | succ n9 ih =>
    intro v3 S h
    rw [B6_errorIn_21] at h
    refine q_iload_n C 3 dX6_errorIn_21 rfl rfl ?_
    refine q_bipush (v := 20) C dX6_errorIn_22 (by decide) ?_
    refine q_icmp_gt (tgt := 58) C h dX6_errorIn_24 (by decide) (fun h => ?_) (fun h => ?_)
    · refine q_sipush (v := (-999)) C dX6_errorIn_58 (by decide) ?_
      obtain ⟨rfl, rfl⟩ := Prod.mk.inj (Option.some.inj h)
      exact q_iret C hr (Nat.le_refl 0) (Nat.le_refl 0) dX6_errorIn_61
    · refine q_aload_n C 0 dX6_errorIn_27 rfl rfl ?_
      refine s_geti C lf6_9 ltp_3 kd_3 dX6_errorIn_28 ?_
      refine q_aload_n C 1 dX6_errorIn_31 rfl rfl ?_
      refine s_geti C lf6_19 ltp_1 kd_1 dX6_errorIn_32 ?_
      refine q_icmp_ge (tgt := 58) C h dX6_errorIn_35 (by decide) (fun h => ?_) (fun h => ?_)
      · refine q_sipush (v := (-999)) C dX6_errorIn_58 (by decide) ?_
        obtain ⟨rfl, rfl⟩ := Prod.mk.inj (Option.some.inj h)
        exact q_iret C hr (Nat.le_refl 0) (Nat.le_refl 0) dX6_errorIn_61
      · refine q_aload_n C 0 dX6_errorIn_38 rfl rfl ?_
        refine q_aload_n C 1 dX6_errorIn_39 rfl rfl ?_
        refine q_aload_n C 2 dX6_errorIn_40 rfl rfl ?_
        obtain ⟨r6, S7, hc5, h⟩ := ob2_e h
        refine q_callVi0 C ltp_3 (qmem_o kd_3 (Nat.le_of_ble_eq_true rfl)) rfl rfl (kX6_readStreet n a2 (ha2) S hc5) lm6_24 rfl (rest := []) rfl (Nat.le_of_ble_eq_true rfl) dX6_errorIn_41 ⟨rfl, rfl, Nat.le_of_ble_eq_true rfl, Nat.le_of_ble_eq_true rfl, Nat.le_of_ble_eq_true rfl, Nat.le_of_ble_eq_true rfl⟩ ?_
        refine q_if_ne (tgt := 52) C h dX6_errorIn_44 (by decide) (fun h => ?_) (fun h => ?_)
        · refine q_iinc C 3 (v := v3 + 1) (lv' := [(3, .int (v3 + 1)), (0, .ref (qa g 3)), (1, .ref (qa g 1)), (2, .ref (qa g a2))]) dX6_errorIn_52 rfl rfl (by decide) rfl ?_
          refine q_norm [1, 2, 3, 0] rfl ?_
          refine q_goto (tgt := 21) C dX6_errorIn_55 (by decide) ?_
          exact ih (v3 + 1) S7 h
        · refine q_norm [0] rfl ?_
          exact W6_errorIn_47 C hr n a2 ha2 S7 h
def F6_errorIn (n : Nat) (a2 : Nat) (S : qSt) : Option (Int32 × qSt) := obs (qup S 3 0 0) fun S1 => ob2 (F6_readHead a2 S1) fun r3 S4 => if ¬ r3 = 0 then (B6_errorIn_21 n a2 n 0 S4) else (some (S4 3 0, S4))
set_option maxRecDepth 100000 in
set_option maxHeartbeats 4000000 in
theorem kX6_errorIn {l : Launch} {g : qG} (n : Nat) (a2 : Nat) (ha2 : tyT a2) (S : qSt) {r : Int32} {S2 : qSt} (h : F6_errorIn n a2 S = some (r, S2)) : Met l yX6_errorIn [.code yX6_errorIn cX6_errorIn 4 (some .int)] rmX6_errorIn (qPc g NL qT (qmem g S) [.ref (qa g 3), .ref (qa g 1), .ref (qa g a2)]) (qQi g NL qT (qmem g S2) r) 0 0 (qA g) := by
  refine q_met (by decide) (Nat.le_of_ble_eq_true rfl) (fun p e s m args below meth c C hr _ => ?_)
  have C : qC g cX6_errorIn RX6 4 p s m meth c := C
  show qR g NL qT 4 p l e rmX6_errorIn s m args below meth c 0 0 (MQ below (qQi g NL qT (qmem g S2) r) args s 0 0 (qA g)) (qmem g S) 0 [(0, .ref (qa g 3)), (1, .ref (qa g 1)), (2, .ref (qa g a2))] []
  unfold F6_errorIn at h
  refine q_aload_n C 0 dX6_errorIn_0 rfl rfl ?_
  refine q_iconst (v := 0) C dX6_errorIn_1 (by decide) ?_
  obtain ⟨S1, hS1, h⟩ := obs_e h
  refine s_puti C lf6_9 ltp_3 kd_3 dX6_errorIn_2 ?_
  rw [← hS1]
  refine q_aload_n C 0 dX6_errorIn_5 rfl rfl ?_
  refine q_aload_n C 1 dX6_errorIn_6 rfl rfl ?_
  refine q_aload_n C 2 dX6_errorIn_7 rfl rfl ?_
  obtain ⟨r3, S4, hc2, h⟩ := ob2_e h
  refine q_callVi0 C ltp_3 (qmem_o kd_3 (Nat.le_of_ble_eq_true rfl)) rfl rfl (kX6_readHead a2 (ha2) S1 hc2) lm6_15 rfl (rest := []) rfl (Nat.le_of_ble_eq_true rfl) dX6_errorIn_8 ⟨rfl, rfl, Nat.le_of_ble_eq_true rfl, Nat.le_of_ble_eq_true rfl, Nat.le_of_ble_eq_true rfl, Nat.le_of_ble_eq_true rfl⟩ ?_
  refine q_if_ne (tgt := 19) C h dX6_errorIn_11 (by decide) (fun h => ?_) (fun h => ?_)
  · refine q_iconst (v := 0) C dX6_errorIn_19 (by decide) ?_
    refine q_istore_n C (lv' := [(3, .int 0), (0, .ref (qa g 3)), (1, .ref (qa g 1)), (2, .ref (qa g a2))]) dX6_errorIn_20 rfl (by decide) rfl ?_
    refine q_norm [1, 2, 3, 0] rfl ?_
    exact W6_errorIn_21 C hr n a2 ha2 n 0 S4 h
  · refine q_aload_n C 0 dX6_errorIn_14 rfl rfl ?_
    refine s_geti C lf6_9 ltp_3 kd_3 dX6_errorIn_15 ?_
    obtain ⟨rfl, rfl⟩ := Prod.mk.inj (Option.some.inj h)
    exact q_iret C hr (Nat.le_refl 0) (Nat.le_refl 0) dX6_errorIn_18
/-! ClosedStreets$History.forgetAll -/
abbrev rmX0_forgetAll : Room := { frames := 0, cells := 0, slots := 0, locals := 0 }
def F0_forgetAll (S : qSt) : Option qSt := some (qup S 18 2 0)
set_option maxRecDepth 100000 in
set_option maxHeartbeats 4000000 in
theorem kX0_forgetAll {l : Launch} {g : qG} (S : qSt) {S2 : qSt} (h : F0_forgetAll S = some S2) : Met l yX0_forgetAll [.code yX0_forgetAll cX0_forgetAll 1 none] rmX0_forgetAll (qPc g NL qT (qmem g S) [.ref (qa g 18)]) (qQv g NL qT (qmem g S2)) 0 0 (qA g) := by
  refine q_met (by decide) (Nat.le_of_ble_eq_true rfl) (fun p e s m args below meth c C hr _ => ?_)
  have C : qC g cX0_forgetAll RX0 1 p s m meth c := C
  show qR g NL qT 1 p l e rmX0_forgetAll s m args below meth c 0 0 (MQ below (qQv g NL qT (qmem g S2)) args s 0 0 (qA g)) (qmem g S) 0 [(0, .ref (qa g 18))] []
  unfold F0_forgetAll at h
  refine q_aload_n C 0 dX0_forgetAll_0 rfl rfl ?_
  refine q_iconst (v := 0) C dX0_forgetAll_1 (by decide) ?_
  refine s_puti C lf0_21 ltp_18 kd_18 dX0_forgetAll_2 ?_
  obtain rfl := Option.some.inj h
  exact q_vret C hr (Nat.le_refl 0) (Nat.le_refl 0) dX0_forgetAll_5
/-! ClosedStreets$Slots.emptyAll -/
abbrev rmX3_emptyAll : Room := { frames := 0, cells := 0, slots := 0, locals := 0 }
def B3_emptyAll_2 (n : Nat) : Nat → Int32 → qSt → Option qSt
  | 0, _, _ => none
  | n9 + 1, v1, S => if 2 ≤ v1 then (some S) else (if qin v1 2 = true then obs (qup S 92 v1.toNatClampNeg ((0 : Int32) &&& 1)) fun S2 => (B3_emptyAll_2 n n9) (v1 + 1) S2 else none)
set_option maxRecDepth 100000 in
set_option maxHeartbeats 4000000 in
theorem W3_emptyAll_2 {S2 : qSt} (C : qC g cX3_emptyAll RX3 2 p s m meth c) (hr : meth.sig.returnType = none) (n : Nat) : ∀ (n9 : Nat) (v1 : Int32) (S : qSt), B3_emptyAll_2 n n9 v1 S = some S2 → qR g NL qT 2 p l e rmX3_emptyAll s m args below meth c 0 0 (MQ below (qQv g NL qT (qmem g S2)) args s 0 0 (qA g)) (qmem g S) 2 [(0, .ref (qa g 90)), (1, .int v1)] [] := by
  intro n9
  induction n9 with
  | zero =>
    intro v1 S h
    have h9 : (none : Option qSt) = some S2 := h
    cases h9
  | succ n9 ih =>
    intro v1 S h
    rw [B3_emptyAll_2] at h
    refine q_iload_n C 1 dX3_emptyAll_2 rfl rfl ?_
    refine q_iconst (v := 2) C dX3_emptyAll_3 (by decide) ?_
    refine q_icmp_ge (tgt := 20) C h dX3_emptyAll_4 (by decide) (fun h => ?_) (fun h => ?_)
    · obtain rfl := Option.some.inj h
      exact q_vret C hr (Nat.le_refl 0) (Nat.le_refl 0) dX3_emptyAll_20
    · refine q_aload_n C 0 dX3_emptyAll_7 rfl rfl ?_
      refine s_getr (a := 92) C lf3_17 ltp_90 kd_90 rfl dX3_emptyAll_8 ?_
      refine q_iload_n C 1 dX3_emptyAll_11 rfl rfl ?_
      refine q_iconst (v := 0) C dX3_emptyAll_12 (by decide) ?_
      obtain ⟨hb1, h⟩ := q_if h
      obtain ⟨S2, hS2, h⟩ := obs_e h
      refine s_zast C ltp_92 kd_92 hb1 dX3_emptyAll_13 ?_
      rw [← hS2]
      refine q_iinc C 1 (v := v1 + 1) (lv' := [(1, .int (v1 + 1)), (0, .ref (qa g 90))]) dX3_emptyAll_14 rfl rfl (by decide) rfl ?_
      refine q_norm [1, 0] rfl ?_
      refine q_goto (tgt := 2) C dX3_emptyAll_17 (by decide) ?_
      exact ih (v1 + 1) S2 h
def F3_emptyAll (n : Nat) (S : qSt) : Option qSt := B3_emptyAll_2 n n 0 S
set_option maxRecDepth 100000 in
set_option maxHeartbeats 4000000 in
theorem kX3_emptyAll {l : Launch} {g : qG} (n : Nat) (S : qSt) {S2 : qSt} (h : F3_emptyAll n S = some S2) : Met l yX3_emptyAll [.code yX3_emptyAll cX3_emptyAll 2 none] rmX3_emptyAll (qPc g NL qT (qmem g S) [.ref (qa g 90)]) (qQv g NL qT (qmem g S2)) 0 0 (qA g) := by
  refine q_met (by decide) (Nat.le_of_ble_eq_true rfl) (fun p e s m args below meth c C hr _ => ?_)
  have C : qC g cX3_emptyAll RX3 2 p s m meth c := C
  show qR g NL qT 2 p l e rmX3_emptyAll s m args below meth c 0 0 (MQ below (qQv g NL qT (qmem g S2)) args s 0 0 (qA g)) (qmem g S) 0 [(0, .ref (qa g 90))] []
  unfold F3_emptyAll at h
  refine q_iconst (v := 0) C dX3_emptyAll_0 (by decide) ?_
  refine q_istore_n C (lv' := [(1, .int 0), (0, .ref (qa g 90))]) dX3_emptyAll_1 rfl (by decide) rfl ?_
  refine q_norm [1, 0] rfl ?_
  exact W3_emptyAll_2 C hr n n 0 S h
/-! ClosedStreets$History.keep -/
abbrev rmX0_keep : Room := { frames := 2, cells := 0, slots := 0, locals := 80 }
def F0_keep (n : Nat) (a1 : Nat) (S : qSt) : Option qSt := if qin (((S 18 1) + (S 18 2)) - ((S 18 1) + (S 18 2)) / 14 * 14) 14 = true then ob1 (F5_copyFrom n (19 + 1 + 5 * (((S 18 1) + (S 18 2)) - ((S 18 1) + (S 18 2)) / 14 * 14).toNatClampNeg) a1 S) fun S3 => if 14 ≤ (S3 18 2) then (some (qup S3 18 1 (((S3 18 1) + 1) - ((S3 18 1) + 1) / 14 * 14))) else (obs (qup S3 18 2 ((S3 18 2) + 1)) fun S4 => some S4) else none
set_option maxRecDepth 100000 in
set_option maxHeartbeats 4000000 in
theorem kX0_keep {l : Launch} {g : qG} (n : Nat) (a1 : Nat) (ha1 : tyT a1) (S : qSt) {S2 : qSt} (h : F0_keep n a1 S = some S2) : Met l yX0_keep [.code yX0_keep cX0_keep 2 none] rmX0_keep (qPc g NL qT (qmem g S) [.ref (qa g 18), .ref (qa g a1)]) (qQv g NL qT (qmem g S2)) 0 0 (qA g) := by
  refine q_met (by decide) (Nat.le_of_ble_eq_true rfl) (fun p e s m args below meth c C hr _ => ?_)
  have C : qC g cX0_keep RX0 2 p s m meth c := C
  show qR g NL qT 2 p l e rmX0_keep s m args below meth c 0 0 (MQ below (qQv g NL qT (qmem g S2)) args s 0 0 (qA g)) (qmem g S) 0 [(0, .ref (qa g 18)), (1, .ref (qa g a1))] []
  unfold F0_keep at h
  refine q_aload_n C 0 dX0_keep_0 rfl rfl ?_
  refine s_getr (a := 19) C lf0_11 ltp_18 kd_18 rfl dX0_keep_1 ?_
  refine q_aload_n C 0 dX0_keep_4 rfl rfl ?_
  refine s_geti C lf0_17 ltp_18 kd_18 dX0_keep_5 ?_
  refine q_aload_n C 0 dX0_keep_8 rfl rfl ?_
  refine s_geti C lf0_21 ltp_18 kd_18 dX0_keep_9 ?_
  refine q_iadd C dX0_keep_12 ?_
  refine q_bipush (v := 14) C dX0_keep_13 (by decide) ?_
  refine q_irem C dX0_keep_15 (by decide) ?_
  obtain ⟨hb1, h⟩ := q_if h
  refine s_aald14 (a := (19 + 1 + 5 * (((S 18 1) + (S 18 2)) - ((S 18 1) + (S 18 2)) / 14 * 14).toNatClampNeg)) C ltp_19 kd_19 hb1 rfl dX0_keep_16 ?_
  refine q_aload_n C 1 dX0_keep_17 rfl rfl ?_
  obtain ⟨S3, hc2, h⟩ := ob1_e h
  refine q_callVv0 C (tyT_h hb1).l0 (qmem_o (tyT_h hb1).k0 (Nat.le_of_ble_eq_true rfl)) rfl rfl (kX5_copyFrom n (19 + 1 + 5 * (((S 18 1) + (S 18 2)) - ((S 18 1) + (S 18 2)) / 14 * 14).toNatClampNeg) (tyT_h hb1) a1 (ha1) S hc2) lm0_25 rfl (rest := []) rfl (Nat.le_of_ble_eq_true rfl) dX0_keep_18 ⟨rfl, rfl, Nat.le_of_ble_eq_true rfl, Nat.le_of_ble_eq_true rfl, Nat.le_of_ble_eq_true rfl, Nat.le_of_ble_eq_true rfl⟩ ?_
  refine q_aload_n C 0 dX0_keep_21 rfl rfl ?_
  refine s_geti C lf0_21 ltp_18 kd_18 dX0_keep_22 ?_
  refine q_bipush (v := 14) C dX0_keep_25 (by decide) ?_
  refine q_icmp_ge (tgt := 43) C h dX0_keep_27 (by decide) (fun h => ?_) (fun h => ?_)
  · refine q_aload_n C 0 dX0_keep_43 rfl rfl ?_
    refine q_aload_n C 0 dX0_keep_44 rfl rfl ?_
    refine s_geti C lf0_17 ltp_18 kd_18 dX0_keep_45 ?_
    refine q_iconst (v := 1) C dX0_keep_48 (by decide) ?_
    refine q_iadd C dX0_keep_49 ?_
    refine q_bipush (v := 14) C dX0_keep_50 (by decide) ?_
    refine q_irem C dX0_keep_52 (by decide) ?_
    refine s_puti C lf0_17 ltp_18 kd_18 dX0_keep_53 ?_
    obtain rfl := Option.some.inj h
    exact q_vret C hr (Nat.le_refl 0) (Nat.le_refl 0) dX0_keep_56
  · refine q_aload_n C 0 dX0_keep_30 rfl rfl ?_
    refine q_dup C dX0_keep_31 rfl ?_
    refine s_geti C lf0_21 ltp_18 kd_18 dX0_keep_32 ?_
    refine q_iconst (v := 1) C dX0_keep_35 (by decide) ?_
    refine q_iadd C dX0_keep_36 ?_
    obtain ⟨S4, hS4, h⟩ := obs_e h
    refine s_puti C lf0_21 ltp_18 kd_18 dX0_keep_37 ?_
    rw [← hS4]
    refine q_goto (tgt := 56) C dX0_keep_40 (by decide) ?_
    obtain rfl := Option.some.inj h
    exact q_vret C hr (Nat.le_refl 0) (Nat.le_refl 0) dX0_keep_56
/-! ClosedStreets$History.takeBack -/
abbrev rmX0_takeBack : Room := { frames := 2, cells := 0, slots := 0, locals := 80 }
def F0_takeBack (n : Nat) (a1 : Nat) (S : qSt) : Option qSt := if (S 18 2) ≤ 0 then (some S) else (obs (qup S 18 2 ((S 18 2) - 1)) fun S1 => if qin (((S1 18 1) + (S1 18 2)) - ((S1 18 1) + (S1 18 2)) / 14 * 14) 14 = true then ob1 (F5_copyFrom n a1 (19 + 1 + 5 * (((S1 18 1) + (S1 18 2)) - ((S1 18 1) + (S1 18 2)) / 14 * 14).toNatClampNeg) S1) fun S4 => some S4 else none)
set_option maxRecDepth 100000 in
set_option maxHeartbeats 4000000 in
theorem kX0_takeBack {l : Launch} {g : qG} (n : Nat) (a1 : Nat) (ha1 : tyT a1) (S : qSt) {S2 : qSt} (h : F0_takeBack n a1 S = some S2) : Met l yX0_takeBack [.code yX0_takeBack cX0_takeBack 2 none] rmX0_takeBack (qPc g NL qT (qmem g S) [.ref (qa g 18), .ref (qa g a1)]) (qQv g NL qT (qmem g S2)) 0 0 (qA g) := by
  refine q_met (by decide) (Nat.le_of_ble_eq_true rfl) (fun p e s m args below meth c C hr _ => ?_)
  have C : qC g cX0_takeBack RX0 2 p s m meth c := C
  show qR g NL qT 2 p l e rmX0_takeBack s m args below meth c 0 0 (MQ below (qQv g NL qT (qmem g S2)) args s 0 0 (qA g)) (qmem g S) 0 [(0, .ref (qa g 18)), (1, .ref (qa g a1))] []
  unfold F0_takeBack at h
  refine q_aload_n C 0 dX0_takeBack_0 rfl rfl ?_
  refine s_geti C lf0_21 ltp_18 kd_18 dX0_takeBack_1 ?_
  refine q_if_le (tgt := 38) C h dX0_takeBack_4 (by decide) (fun h => ?_) (fun h => ?_)
  · obtain rfl := Option.some.inj h
    exact q_vret C hr (Nat.le_refl 0) (Nat.le_refl 0) dX0_takeBack_38
  · refine q_aload_n C 0 dX0_takeBack_7 rfl rfl ?_
    refine q_dup C dX0_takeBack_8 rfl ?_
    refine s_geti C lf0_21 ltp_18 kd_18 dX0_takeBack_9 ?_
    refine q_iconst (v := 1) C dX0_takeBack_12 (by decide) ?_
    refine q_isub C dX0_takeBack_13 ?_
    obtain ⟨S1, hS1, h⟩ := obs_e h
    refine s_puti C lf0_21 ltp_18 kd_18 dX0_takeBack_14 ?_
    rw [← hS1]
    refine q_aload_n C 1 dX0_takeBack_17 rfl rfl ?_
    refine q_aload_n C 0 dX0_takeBack_18 rfl rfl ?_
    refine s_getr (a := 19) C lf0_11 ltp_18 kd_18 rfl dX0_takeBack_19 ?_
    refine q_aload_n C 0 dX0_takeBack_22 rfl rfl ?_
    refine s_geti C lf0_17 ltp_18 kd_18 dX0_takeBack_23 ?_
    refine q_aload_n C 0 dX0_takeBack_26 rfl rfl ?_
    refine s_geti C lf0_21 ltp_18 kd_18 dX0_takeBack_27 ?_
    refine q_iadd C dX0_takeBack_30 ?_
    refine q_bipush (v := 14) C dX0_takeBack_31 (by decide) ?_
    refine q_irem C dX0_takeBack_33 (by decide) ?_
    obtain ⟨hb2, h⟩ := q_if h
    refine s_aald14 (a := (19 + 1 + 5 * (((S1 18 1) + (S1 18 2)) - ((S1 18 1) + (S1 18 2)) / 14 * 14).toNatClampNeg)) C ltp_19 kd_19 hb2 rfl dX0_takeBack_34 ?_
    obtain ⟨S4, hc3, h⟩ := ob1_e h
    refine q_callVv0 C ha1.l0 (qmem_o ha1.k0 (Nat.le_of_ble_eq_true rfl)) rfl rfl (kX5_copyFrom n a1 (ha1) (19 + 1 + 5 * (((S1 18 1) + (S1 18 2)) - ((S1 18 1) + (S1 18 2)) / 14 * 14).toNatClampNeg) (tyT_h hb2) S1 hc3) lm0_25 rfl (rest := []) rfl (Nat.le_of_ble_eq_true rfl) dX0_takeBack_35 ⟨rfl, rfl, Nat.le_of_ble_eq_true rfl, Nat.le_of_ble_eq_true rfl, Nat.le_of_ble_eq_true rfl, Nat.le_of_ble_eq_true rfl⟩ ?_
    obtain rfl := Option.some.inj h
    exact q_vret C hr (Nat.le_refl 0) (Nat.le_refl 0) dX0_takeBack_38
/-! ClosedStreets$Slots.keep -/
abbrev rmX3_keep : Room := { frames := 2, cells := 0, slots := 0, locals := 80 }
def F3_keep (n : Nat) (v1 : Int32) (a2 : Nat) (S : qSt) : Option qSt := if qin v1 2 = true then ob1 (F5_copyFrom n (91 + 2 + 5 * v1.toNatClampNeg) a2 S) fun S3 => some (qup S3 92 v1.toNatClampNeg ((1 : Int32) &&& 1)) else none
set_option maxRecDepth 100000 in
set_option maxHeartbeats 4000000 in
theorem kX3_keep {l : Launch} {g : qG} (n : Nat) (v1 : Int32) (a2 : Nat) (ha2 : tyT a2) (S : qSt) {S2 : qSt} (h : F3_keep n v1 a2 S = some S2) : Met l yX3_keep [.code yX3_keep cX3_keep 3 none] rmX3_keep (qPc g NL qT (qmem g S) [.ref (qa g 90), .int v1, .ref (qa g a2)]) (qQv g NL qT (qmem g S2)) 0 0 (qA g) := by
  refine q_met (by decide) (Nat.le_of_ble_eq_true rfl) (fun p e s m args below meth c C hr _ => ?_)
  have C : qC g cX3_keep RX3 3 p s m meth c := C
  show qR g NL qT 3 p l e rmX3_keep s m args below meth c 0 0 (MQ below (qQv g NL qT (qmem g S2)) args s 0 0 (qA g)) (qmem g S) 0 [(0, .ref (qa g 90)), (1, .int v1), (2, .ref (qa g a2))] []
  unfold F3_keep at h
  refine q_aload_n C 0 dX3_keep_0 rfl rfl ?_
  refine s_getr (a := 91) C lf3_11 ltp_90 kd_90 rfl dX3_keep_1 ?_
  refine q_iload_n C 1 dX3_keep_4 rfl rfl ?_
  obtain ⟨hb1, h⟩ := q_if h
  refine s_aald15 (a := (91 + 2 + 5 * v1.toNatClampNeg)) C ltp_91 kd_91 hb1 rfl dX3_keep_5 ?_
  refine q_aload_n C 2 dX3_keep_6 rfl rfl ?_
  obtain ⟨S3, hc2, h⟩ := ob1_e h
  refine q_callVv0 C (tyT_s hb1).l0 (qmem_o (tyT_s hb1).k0 (Nat.le_of_ble_eq_true rfl)) rfl rfl (kX5_copyFrom n (91 + 2 + 5 * v1.toNatClampNeg) (tyT_s hb1) a2 (ha2) S hc2) lm3_22 rfl (rest := []) rfl (Nat.le_of_ble_eq_true rfl) dX3_keep_7 ⟨rfl, rfl, Nat.le_of_ble_eq_true rfl, Nat.le_of_ble_eq_true rfl, Nat.le_of_ble_eq_true rfl, Nat.le_of_ble_eq_true rfl⟩ ?_
  refine q_aload_n C 0 dX3_keep_10 rfl rfl ?_
  refine s_getr (a := 92) C lf3_17 ltp_90 kd_90 rfl dX3_keep_11 ?_
  refine q_iload_n C 1 dX3_keep_14 rfl rfl ?_
  refine q_iconst (v := 1) C dX3_keep_15 (by decide) ?_
  refine s_zast C ltp_92 kd_92 hb1 dX3_keep_16 ?_
  obtain rfl := Option.some.inj h
  exact q_vret C hr (Nat.le_refl 0) (Nat.le_refl 0) dX3_keep_17
/-! ClosedStreets$Slots.giveBack -/
abbrev rmX3_giveBack : Room := { frames := 2, cells := 0, slots := 0, locals := 80 }
def F3_giveBack (n : Nat) (v1 : Int32) (a2 : Nat) (S : qSt) : Option qSt := if qin v1 2 = true then ob1 (F5_copyFrom n a2 (91 + 2 + 5 * v1.toNatClampNeg) S) fun S3 => some S3 else none
set_option maxRecDepth 100000 in
set_option maxHeartbeats 4000000 in
theorem kX3_giveBack {l : Launch} {g : qG} (n : Nat) (v1 : Int32) (a2 : Nat) (ha2 : tyT a2) (S : qSt) {S2 : qSt} (h : F3_giveBack n v1 a2 S = some S2) : Met l yX3_giveBack [.code yX3_giveBack cX3_giveBack 3 none] rmX3_giveBack (qPc g NL qT (qmem g S) [.ref (qa g 90), .int v1, .ref (qa g a2)]) (qQv g NL qT (qmem g S2)) 0 0 (qA g) := by
  refine q_met (by decide) (Nat.le_of_ble_eq_true rfl) (fun p e s m args below meth c C hr _ => ?_)
  have C : qC g cX3_giveBack RX3 3 p s m meth c := C
  show qR g NL qT 3 p l e rmX3_giveBack s m args below meth c 0 0 (MQ below (qQv g NL qT (qmem g S2)) args s 0 0 (qA g)) (qmem g S) 0 [(0, .ref (qa g 90)), (1, .int v1), (2, .ref (qa g a2))] []
  unfold F3_giveBack at h
  refine q_aload_n C 2 dX3_giveBack_0 rfl rfl ?_
  refine q_aload_n C 0 dX3_giveBack_1 rfl rfl ?_
  refine s_getr (a := 91) C lf3_11 ltp_90 kd_90 rfl dX3_giveBack_2 ?_
  refine q_iload_n C 1 dX3_giveBack_5 rfl rfl ?_
  obtain ⟨hb1, h⟩ := q_if h
  refine s_aald15 (a := (91 + 2 + 5 * v1.toNatClampNeg)) C ltp_91 kd_91 hb1 rfl dX3_giveBack_6 ?_
  obtain ⟨S3, hc2, h⟩ := ob1_e h
  refine q_callVv0 C ha2.l0 (qmem_o ha2.k0 (Nat.le_of_ble_eq_true rfl)) rfl rfl (kX5_copyFrom n a2 (ha2) (91 + 2 + 5 * v1.toNatClampNeg) (tyT_s hb1) S hc2) lm3_22 rfl (rest := []) rfl (Nat.le_of_ble_eq_true rfl) dX3_giveBack_7 ⟨rfl, rfl, Nat.le_of_ble_eq_true rfl, Nat.le_of_ble_eq_true rfl, Nat.le_of_ble_eq_true rfl, Nat.le_of_ble_eq_true rfl⟩ ?_
  obtain rfl := Option.some.inj h
  exact q_vret C hr (Nat.le_refl 0) (Nat.le_refl 0) dX3_giveBack_10
end
