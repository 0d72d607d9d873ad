section
variable {l : Launch} {g : qG} {p : Program} {e : Env} {s : State} {m : MethodId} {args : Array Value} {below : List Frame} {meth : Method} {c : Code}
/-! ClosedStreets$PlanReader.wordBeginningWith -/
abbrev rmX1_wordBeginningWith : Room := { frames := 0, cells := 0, slots := 0, locals := 0 }
def F1_wordBeginningWith (v0 : Int32) (S : qSt) : Nat := if v0 = 99 then (1) else if v0 = 101 then (3) else if v0 = 108 then (2) else if v0 = 111 then (0) else if v0 = 116 then (4) else (5)
set_option maxRecDepth 100000 in
set_option maxHeartbeats 4000000 in
theorem kX1_wordBeginningWith {l : Launch} {g : qG} (v0 : Int32) (S : qSt) : Met l yX1_wordBeginningWith [.code yX1_wordBeginningWith cX1_wordBeginningWith 1 (some (.object "java/lang/String"))] rmX1_wordBeginningWith (qPc g NL qT (qmem g S) [.int v0]) (qQr g NL qT (qmem g S) (g.2.2.2.1 (F1_wordBeginningWith v0 S))) 0 0 (qA g) := by
  obtain ⟨r, h⟩ : ∃ r, F1_wordBeginningWith v0 S = r := ⟨_, rfl⟩
  rw [h]
  refine q_met (by decide) (Nat.le_of_ble_eq_true rfl) (fun p e s m args below meth c C hr _ => ?_)
  have C : qC g cX1_wordBeginningWith RX1 1 p s m meth c := C
  show qR g NL qT 1 p l e rmX1_wordBeginningWith s m args below meth c 0 0 (MQ below (qQr g NL qT (qmem g S) (g.2.2.2.1 r)) args s 0 0 (qA g)) (qmem g S) 0 [(0, .int v0)] []
  unfold F1_wordBeginningWith at h
  refine q_iload_n C 0 dX1_wordBeginningWith_0 rfl rfl ?_
  rcases q_ite h with ⟨q1, h⟩ | ⟨q1, h⟩
  · refine q_lookup (off := 54) (tgt := 55) C dX1_wordBeginningWith_1 (by decide) (by rw [q1]; rfl) (by decide) ?_
    refine s_ldcS (i := 1) (tx := "close") C rfl dX1_wordBeginningWith_55 ?_
    subst h
    exact q_aret C hr (Nat.le_refl 0) (Nat.le_refl 0) dX1_wordBeginningWith_57
  rcases q_ite h with ⟨q2, h⟩ | ⟨q2, h⟩
  · refine q_lookup (off := 60) (tgt := 61) C dX1_wordBeginningWith_1 (by decide) (by rw [q2]; rfl) (by decide) ?_
    refine s_ldcS (i := 3) (tx := "ends") C rfl dX1_wordBeginningWith_61 ?_
    subst h
    exact q_aret C hr (Nat.le_refl 0) (Nat.le_refl 0) dX1_wordBeginningWith_63
  rcases q_ite h with ⟨q3, h⟩ | ⟨q3, h⟩
  · refine q_lookup (off := 57) (tgt := 58) C dX1_wordBeginningWith_1 (by decide) (by rw [q3]; rfl) (by decide) ?_
    refine s_ldcS (i := 2) (tx := "long") C rfl dX1_wordBeginningWith_58 ?_
    subst h
    exact q_aret C hr (Nat.le_refl 0) (Nat.le_refl 0) dX1_wordBeginningWith_60
  rcases q_ite h with ⟨q4, h⟩ | ⟨q4, h⟩
  · refine q_lookup (off := 51) (tgt := 52) C dX1_wordBeginningWith_1 (by decide) (by rw [q4]; rfl) (by decide) ?_
    refine s_ldcS (i := 0) (tx := "open") C rfl dX1_wordBeginningWith_52 ?_
    subst h
    exact q_aret C hr (Nat.le_refl 0) (Nat.le_refl 0) dX1_wordBeginningWith_54
  rcases q_ite h with ⟨q5, h⟩ | ⟨q5, h⟩
  · refine q_lookup (off := 63) (tgt := 64) C dX1_wordBeginningWith_1 (by decide) (by rw [q5]; rfl) (by decide) ?_
    refine s_ldcS (i := 4) (tx := "turn") C rfl dX1_wordBeginningWith_64 ?_
    subst h
    exact q_aret C hr (Nat.le_refl 0) (Nat.le_refl 0) dX1_wordBeginningWith_66
  refine q_lookup (off := 66) (tgt := 67) C dX1_wordBeginningWith_1 (by decide) (by have q1 := q_ne (k := 99) (by decide) q1; have q2 := q_ne (k := 101) (by decide) q2; have q3 := q_ne (k := 108) (by decide) q3; have q4 := q_ne (k := 111) (by decide) q4; have q5 := q_ne (k := 116) (by decide) q5; show Op.lookupswitch.offset [(99, 54), (101, 60), (108, 57), (111, 51), (116, 63)] 66 (v0).toInt = 66; rw [Op.lookupswitch.offset_cons, if_neg (Ne.symm q1), Op.lookupswitch.offset_cons, if_neg (Ne.symm q2), Op.lookupswitch.offset_cons, if_neg (Ne.symm q3), Op.lookupswitch.offset_cons, if_neg (Ne.symm q4), Op.lookupswitch.offset_cons, if_neg (Ne.symm q5)]; rfl) (by decide) ?_
  refine s_ldcS (i := 5) (tx := "") C rfl dX1_wordBeginningWith_67 ?_
  subst h
  exact q_aret C hr (Nat.le_refl 0) (Nat.le_refl 0) dX1_wordBeginningWith_69
theorem F1_wordBeginningWith_lt (v0 : Int32) (S : qSt) : F1_wordBeginningWith v0 S < 6 := by
  unfold F1_wordBeginningWith
  repeat' split
  all_goals decide
/-! ClosedStreets$PlanReader.readLetters -/
abbrev rmX1_readLetters : Room := { frames := 4, cells := 0, slots := 0, locals := 160 }
def B1_readLetters_44 (n : Nat) (a2 : Nat) (S : qSt) : Option (Int32 × qSt) := if ¬ (qsemp a2) = 0 then (some (0, S)) else (some (1, S))
set_option maxRecDepth 100000 in
set_option maxHeartbeats 4000000 in
theorem W1_readLetters_44 {r : Int32} {S2 : qSt} (C : qC g cX1_readLetters RX1 4 p s m meth c) (hr : meth.sig.returnType = (some .boolean)) (n : Nat) (a2 : Nat) (ha2 : a2 < 6) (S : qSt) (h : B1_readLetters_44 n a2 S = some (r, S2)) : qR g NL qT 4 p l e rmX1_readLetters s m args below meth c 0 0 (MQ below (qQi g NL qT (qmem g S2) r) args s 0 0 (qA g)) (qmem g S) 44 [(2, .ref (g.2.2.2.1 a2))] [] := by
  unfold B1_readLetters_44 at h
  refine q_aload_n C 0 dX1_readLetters_44 rfl rfl ?_
  refine q_callT C (ha2) rfl (kJ0_isEmpty_aae02 a2 (ha2) S) lm1_72 rfl (rest := []) rfl (Nat.le_of_ble_eq_true rfl) dX1_readLetters_45 ⟨rfl, rfl, Nat.le_of_ble_eq_true rfl, Nat.le_of_ble_eq_true rfl, Nat.le_of_ble_eq_true rfl, Nat.le_of_ble_eq_true rfl⟩ ?_
  refine q_if_ne (tgt := 55) C h dX1_readLetters_48 (by decide) (fun h => ?_) (fun h => ?_)
  · refine q_iconst (v := 0) C dX1_readLetters_55 (by decide) ?_
    obtain ⟨rfl, rfl⟩ := Prod.mk.inj (Option.some.inj h)
    exact q_zret C hr (by decide) (Nat.le_refl 0) (Nat.le_refl 0) dX1_readLetters_56
  · refine q_iconst (v := 1) C dX1_readLetters_51 (by decide) ?_
    refine q_goto (tgt := 56) C dX1_readLetters_52 (by decide) ?_
    obtain ⟨rfl, rfl⟩ := Prod.mk.inj (Option.some.inj h)
    exact q_zret C hr (by decide) (Nat.le_refl 0) (Nat.le_refl 0) dX1_readLetters_56
def B1_readLetters_2 (n : Nat) (a2 : Nat) : Nat → Int32 → qSt → Option (Int32 × qSt)
  | 0, _, _ => none
  | n9 + 1, v3, S => if (qslen a2) ≤ v3 then (B1_readLetters_44 n a2 S) else (ob1 (F4_codeAt (S 4 4) S) fun r2 => if qin v3 (qSlen.getD a2 0) = true then if r2 = (qsb a2 v3.toNatClampNeg) then (obs (qup S 4 4 ((S 4 4) + 1)) fun S4 => (B1_readLetters_2 n a2 n9) (v3 + 1) S4) else (some (0, S)) else none)
set_option maxRecDepth 100000 in
set_option maxHeartbeats 4000000 in
theorem W1_readLetters_2 {r : Int32} {S2 : qSt} (C : qC g cX1_readLetters RX1 4 p s m meth c) (hr : meth.sig.returnType = (some .boolean)) (n : Nat) (a2 : Nat) (ha2 : a2 < 6) : ∀ (n9 : Nat) (v3 : Int32) (S : qSt), B1_readLetters_2 n a2 n9 v3 S = some (r, S2) → qR g NL qT 4 p l e rmX1_readLetters s m args below meth c 0 0 (MQ below (qQi g NL qT (qmem g S2) r) args s 0 0 (qA g)) (qmem g S) 2 [(0, .ref (qa g 4)), (1, .ref (qa g 1)), (2, .ref (g.2.2.2.1 a2)), (3, .int v3)] [] := by
  intro n9
  induction n9 with
  | zero =>
    intro v3 S h
    have h9 : (none : Option (Int32 × qSt)) = some (r, S2) := h
    cases h9
  | succ n9 ih =>
    intro v3 S h
    rw [B1_readLetters_2] at h
    refine q_iload_n C 3 dX1_readLetters_2 rfl rfl ?_
    refine q_aload_n C 2 dX1_readLetters_3 rfl rfl ?_
    refine q_callT C (ha2) rfl (kJ0_length_8abf5 a2 (ha2) S) lm1_63 rfl (rest := [.int v3]) rfl (Nat.le_of_ble_eq_true rfl) dX1_readLetters_4 ⟨rfl, rfl, Nat.le_of_ble_eq_true rfl, Nat.le_of_ble_eq_true rfl, Nat.le_of_ble_eq_true rfl, Nat.le_of_ble_eq_true rfl⟩ ?_
    refine q_icmp_ge (tgt := 44) C h dX1_readLetters_7 (by decide) (fun h => ?_) (fun h => ?_)
    · refine q_norm [2] rfl ?_
      exact W1_readLetters_44 C hr n a2 ha2 S h
    · refine q_aload_n C 1 dX1_readLetters_10 rfl rfl ?_
      refine q_aload_n C 0 dX1_readLetters_11 rfl rfl ?_
      refine s_geti C lf1_25 ltp_4 kd_4 dX1_readLetters_12 ?_
      obtain ⟨r2, hc1, h⟩ := ob1_e h
      refine q_callVi0 C ltp_1 (qmem_o kd_1 (Nat.le_of_ble_eq_true rfl)) rfl rfl (kX4_codeAt (S 4 4) S hc1) lm1_41 rfl (rest := []) rfl (Nat.le_of_ble_eq_true rfl) dX1_readLetters_15 ⟨rfl, rfl, Nat.le_of_ble_eq_true rfl, Nat.le_of_ble_eq_true rfl, Nat.le_of_ble_eq_true rfl, Nat.le_of_ble_eq_true rfl⟩ ?_
      refine q_aload_n C 2 dX1_readLetters_18 rfl rfl ?_
      refine q_iload_n C 3 dX1_readLetters_19 rfl rfl ?_
      obtain ⟨hb3, h⟩ := q_if h
      refine q_callT C (ha2) rfl (kJ0_charAt_5068e a2 (ha2) v3 hb3 S) lm1_68 rfl (rest := [.int r2]) rfl (Nat.le_of_ble_eq_true rfl) dX1_readLetters_20 ⟨rfl, rfl, Nat.le_of_ble_eq_true rfl, Nat.le_of_ble_eq_true rfl, Nat.le_of_ble_eq_true rfl, Nat.le_of_ble_eq_true rfl⟩ ?_
      refine q_icmp_eq (tgt := 28) C h dX1_readLetters_23 (by decide) (fun h => ?_) (fun h => ?_)
      · refine q_aload_n C 0 dX1_readLetters_28 rfl rfl ?_
        refine q_dup C dX1_readLetters_29 rfl ?_
        refine s_geti C lf1_25 ltp_4 kd_4 dX1_readLetters_30 ?_
        refine q_iconst (v := 1) C dX1_readLetters_33 (by decide) ?_
        refine q_iadd C dX1_readLetters_34 ?_
        obtain ⟨S4, hS4, h⟩ := obs_e h
        refine s_puti C lf1_25 ltp_4 kd_4 dX1_readLetters_35 ?_
        rw [← hS4]
        refine q_iinc C 3 (v := v3 + 1) (lv' := [(3, .int (v3 + 1)), (0, .ref (qa g 4)), (1, .ref (qa g 1)), (2, .ref (g.2.2.2.1 a2))]) dX1_readLetters_38 rfl rfl (by decide) rfl ?_
        refine q_norm [1, 2, 3, 0] rfl ?_
        refine q_goto (tgt := 2) C dX1_readLetters_41 (by decide) ?_
        exact ih (v3 + 1) S4 h
      · refine q_iconst (v := 0) C dX1_readLetters_26 (by decide) ?_
        obtain ⟨rfl, rfl⟩ := Prod.mk.inj (Option.some.inj h)
        exact q_zret C hr (by decide) (Nat.le_refl 0) (Nat.le_refl 0) dX1_readLetters_27
def F1_readLetters (n : Nat) (a2 : Nat) (S : qSt) : Option (Int32 × qSt) := B1_readLetters_2 n a2 n 0 S
set_option maxRecDepth 100000 in
set_option maxHeartbeats 4000000 in
theorem kX1_readLetters {l : Launch} {g : qG} (n : Nat) (a2 : Nat) (ha2 : a2 < 6) (S : qSt) {r : Int32} {S2 : qSt} (h : F1_readLetters n a2 S = some (r, S2)) : Met l yX1_readLetters [.code yX1_readLetters cX1_readLetters 4 (some .boolean)] rmX1_readLetters (qPc g NL qT (qmem g S) [.ref (qa g 4), .ref (qa g 1), .ref (g.2.2.2.1 a2)]) (qQi g NL qT (qmem g S2) r) 0 0 (qA g) := by
  refine q_met (by decide) (Nat.le_of_ble_eq_true rfl) (fun p e s m args below meth c C hr _ => ?_)
  have C : qC g cX1_readLetters RX1 4 p s m meth c := C
  show qR g NL qT 4 p l e rmX1_readLetters s m args below meth c 0 0 (MQ below (qQi g NL qT (qmem g S2) r) args s 0 0 (qA g)) (qmem g S) 0 [(0, .ref (qa g 4)), (1, .ref (qa g 1)), (2, .ref (g.2.2.2.1 a2))] []
  unfold F1_readLetters at h
  refine q_iconst (v := 0) C dX1_readLetters_0 (by decide) ?_
  refine q_istore_n C (lv' := [(3, .int 0), (0, .ref (qa g 4)), (1, .ref (qa g 1)), (2, .ref (g.2.2.2.1 a2))]) dX1_readLetters_1 rfl (by decide) rfl ?_
  refine q_norm [1, 2, 3, 0] rfl ?_
  exact W1_readLetters_2 C hr n a2 ha2 n 0 S h
/-! ClosedStreets$PlanReader.readCommand -/
abbrev rmX1_readCommand : Room := { frames := 5, cells := 0, slots := 0, locals := 200 }
def B1_readCommand_117 (n : Nat) (v2 : Int32) (S : qSt) : Option (Int32 × qSt) := obs (qup S 4 0 (v2 + 1)) fun S8 => some (1, S8)
set_option maxRecDepth 100000 in
set_option maxHeartbeats 4000000 in
theorem W1_readCommand_117 {r : Int32} {S2 : qSt} (C : qC g cX1_readCommand RX1 5 p s m meth c) (hr : meth.sig.returnType = (some .boolean)) (n : Nat) (v2 : Int32) (S : qSt) (h : B1_readCommand_117 n v2 S = some (r, S2)) : qR g NL qT 5 p l e rmX1_readCommand s m args below meth c 0 0 (MQ below (qQi g NL qT (qmem g S2) r) args s 0 0 (qA g)) (qmem g S) 117 [(0, .ref (qa g 4)), (2, .int v2)] [] := by
  unfold B1_readCommand_117 at h
  refine q_aload_n C 0 dX1_readCommand_117 rfl rfl ?_
  refine q_iload_n C 1 dX1_readCommand_118 rfl rfl ?_
  refine q_iconst (v := 1) C dX1_readCommand_119 (by decide) ?_
  refine q_iadd C dX1_readCommand_120 ?_
  obtain ⟨S8, hS8, h⟩ := obs_e h
  refine s_puti C lf1_9 ltp_4 kd_4 dX1_readCommand_121 ?_
  rw [← hS8]
  refine q_iconst (v := 1) C dX1_readCommand_124 (by decide) ?_
  obtain ⟨rfl, rfl⟩ := Prod.mk.inj (Option.some.inj h)
  exact q_zret C hr (by decide) (Nat.le_refl 0) (Nat.le_refl 0) dX1_readCommand_125
def B1_readCommand_76 (n : Nat) (v2 : Int32) (v4 : Int32) (S : qSt) : Option (Int32 × qSt) := if v4 ≤ 1 then (B1_readCommand_117 n v2 S) else (ob2 (F1_readBlank S) fun r10 S11 => if r10 = 0 then (some (0, S11)) else (ob1 (F4_digitAt (S11 4 4) S11) fun r13 => if ¬ r13 = (-999) then (ob2 (F1_readNumber n S11) fun r15 S16 => if qin v2 140 = true then obs (qup S16 7 v2.toNatClampNeg r15) fun S18 => B1_readCommand_117 n v2 S18 else none) else (some (0, S11))))
set_option maxRecDepth 100000 in
set_option maxHeartbeats 4000000 in
theorem W1_readCommand_76 {r : Int32} {S2 : qSt} (C : qC g cX1_readCommand RX1 5 p s m meth c) (hr : meth.sig.returnType = (some .boolean)) (n : Nat) (v2 : Int32) (v4 : Int32) (S : qSt) (h : B1_readCommand_76 n v2 v4 S = some (r, S2)) : qR g NL qT 5 p l e rmX1_readCommand s m args below meth c 0 0 (MQ below (qQi g NL qT (qmem g S2) r) args s 0 0 (qA g)) (qmem g S) 76 [(0, .ref (qa g 4)), (1, .ref (qa g 1)), (2, .int v2), (4, .int v4)] [] := by
  unfold B1_readCommand_76 at h
  refine q_iload C 3 dX1_readCommand_76 rfl ?_
  refine q_iconst (v := 1) C dX1_readCommand_78 (by decide) ?_
  refine q_icmp_le (tgt := 117) C h dX1_readCommand_79 (by decide) (fun h => ?_) (fun h => ?_)
  · refine q_norm [0, 2] rfl ?_
    exact W1_readCommand_117 C hr n v2 S h
  · refine q_aload_n C 0 dX1_readCommand_82 rfl rfl ?_
    refine q_aload_n C 1 dX1_readCommand_83 rfl rfl ?_
    obtain ⟨r10, S11, hc9, h⟩ := ob2_e h
    refine q_callVi0 C ltp_4 (qmem_o kd_4 (Nat.le_of_ble_eq_true rfl)) rfl rfl (kX1_readBlank S hc9) lm1_37 rfl (rest := []) rfl (Nat.le_of_ble_eq_true rfl) dX1_readCommand_84 ⟨rfl, rfl, Nat.le_of_ble_eq_true rfl, Nat.le_of_ble_eq_true rfl, Nat.le_of_ble_eq_true rfl, Nat.le_of_ble_eq_true rfl⟩ ?_
    refine q_if_eq (tgt := 104) C h dX1_readCommand_87 (by decide) (fun h => ?_) (fun h => ?_)
    · refine q_iconst (v := 0) C dX1_readCommand_104 (by decide) ?_
      obtain ⟨rfl, rfl⟩ := Prod.mk.inj (Option.some.inj h)
      exact q_zret C hr (by decide) (Nat.le_refl 0) (Nat.le_refl 0) dX1_readCommand_105
    · refine q_aload_n C 1 dX1_readCommand_90 rfl rfl ?_
      refine q_aload_n C 0 dX1_readCommand_91 rfl rfl ?_
      refine s_geti C lf1_25 ltp_4 kd_4 dX1_readCommand_92 ?_
      obtain ⟨r13, hc12, h⟩ := ob1_e h
      refine q_callVi0 C ltp_1 (qmem_o kd_1 (Nat.le_of_ble_eq_true rfl)) rfl rfl (kX4_digitAt (S11 4 4) S11 hc12) lm1_56 rfl (rest := []) rfl (Nat.le_of_ble_eq_true rfl) dX1_readCommand_95 ⟨rfl, rfl, Nat.le_of_ble_eq_true rfl, Nat.le_of_ble_eq_true rfl, Nat.le_of_ble_eq_true rfl, Nat.le_of_ble_eq_true rfl⟩ ?_
      refine q_sipush (v := (-999)) C dX1_readCommand_98 (by decide) ?_
      refine q_icmp_ne (tgt := 106) C h dX1_readCommand_101 (by decide) (fun h => ?_) (fun h => ?_)
      · refine q_aload_n C 0 dX1_readCommand_106 rfl rfl ?_
        refine s_getr (a := 7) C lf1_22 ltp_4 kd_4 rfl dX1_readCommand_107 ?_
        refine q_iload_n C 2 dX1_readCommand_110 rfl rfl ?_
        refine q_aload_n C 0 dX1_readCommand_111 rfl rfl ?_
        refine q_aload_n C 1 dX1_readCommand_112 rfl rfl ?_
        obtain ⟨r15, S16, hc14, h⟩ := ob2_e h
        refine q_callVi0 C ltp_4 (qmem_o kd_4 (Nat.le_of_ble_eq_true rfl)) rfl rfl (kX1_readNumber n S11 hc14) lm1_59 rfl (rest := [.int v2, .ref (qa g 7)]) rfl (Nat.le_of_ble_eq_true rfl) dX1_readCommand_113 ⟨rfl, rfl, Nat.le_of_ble_eq_true rfl, Nat.le_of_ble_eq_true rfl, Nat.le_of_ble_eq_true rfl, Nat.le_of_ble_eq_true rfl⟩ ?_
        obtain ⟨hb17, h⟩ := q_if h
        obtain ⟨S18, hS18, h⟩ := obs_e h
        refine s_iast C ltp_7 kd_7 hb17 dX1_readCommand_116 ?_
        rw [← hS18]
        refine q_norm [0, 2] rfl ?_
        exact W1_readCommand_117 C hr n v2 S18 h
      · refine q_iconst (v := 0) C dX1_readCommand_104 (by decide) ?_
        obtain ⟨rfl, rfl⟩ := Prod.mk.inj (Option.some.inj h)
        exact q_zret C hr (by decide) (Nat.le_refl 0) (Nat.le_refl 0) dX1_readCommand_105
def F1_readCommand (n : Nat) (v2 : Int32) (S : qSt) : Option (Int32 × qSt) := ob1 (F4_codeAt (S 4 4) S) fun r2 => ob2 (F1_readLetters n (F1_wordBeginningWith r2 S) S) fun r4 S5 => if ¬ r4 = 0 then (if qin v2 140 = true then obs (qup S5 5 v2.toNatClampNeg r2) fun S7 => if (F1_numbersBehind r2 S7) ≤ 0 then (B1_readCommand_76 n v2 (F1_numbersBehind r2 S7) S7) else (ob2 (F1_readBlank S7) fun r20 S21 => if r20 = 0 then (some (0, S21)) else (ob1 (F4_digitAt (S21 4 4) S21) fun r23 => if ¬ r23 = (-999) then (ob2 (F1_readNumber n S21) fun r25 S26 => obs (qup S26 6 v2.toNatClampNeg r25) fun S27 => B1_readCommand_76 n v2 (F1_numbersBehind r2 S7) S27) else (some (0, S21)))) else none) else (some (0, S5))
set_option maxRecDepth 100000 in
set_option maxHeartbeats 4000000 in
theorem kX1_readCommand {l : Launch} {g : qG} (n : Nat) (v2 : Int32) (S : qSt) {r : Int32} {S2 : qSt} (h : F1_readCommand n v2 S = some (r, S2)) : Met l yX1_readCommand [.code yX1_readCommand cX1_readCommand 5 (some .boolean)] rmX1_readCommand (qPc g NL qT (qmem g S) [.ref (qa g 4), .ref (qa g 1), .int v2]) (qQi g NL qT (qmem g S2) r) 0 0 (qA g) := by
  refine q_met (by decide) (Nat.le_of_ble_eq_true rfl) (fun p e s m args below meth c C hr _ => ?_)
  have C : qC g cX1_readCommand RX1 5 p s m meth c := C
  show qR g NL qT 5 p l e rmX1_readCommand s m args below meth c 0 0 (MQ below (qQi g NL qT (qmem g S2) r) args s 0 0 (qA g)) (qmem g S) 0 [(0, .ref (qa g 4)), (1, .ref (qa g 1)), (2, .int v2)] []
  unfold F1_readCommand at h
  refine q_aload_n C 1 dX1_readCommand_0 rfl rfl ?_
  refine q_aload_n C 0 dX1_readCommand_1 rfl rfl ?_
  refine s_geti C lf1_25 ltp_4 kd_4 dX1_readCommand_2 ?_
  obtain ⟨r2, hc1, h⟩ := ob1_e h
  refine q_callVi0 C ltp_1 (qmem_o kd_1 (Nat.le_of_ble_eq_true rfl)) rfl rfl (kX4_codeAt (S 4 4) S hc1) lm1_41 rfl (rest := []) rfl (Nat.le_of_ble_eq_true rfl) dX1_readCommand_5 ⟨rfl, rfl, Nat.le_of_ble_eq_true rfl, Nat.le_of_ble_eq_true rfl, Nat.le_of_ble_eq_true rfl, Nat.le_of_ble_eq_true rfl⟩ ?_
  refine q_istore_n C (lv' := [(3, .int r2), (0, .ref (qa g 4)), (1, .ref (qa g 1)), (2, .int v2)]) dX1_readCommand_8 rfl (by decide) rfl ?_
  refine q_norm [1, 2, 3, 0] rfl ?_
  refine q_aload_n C 0 dX1_readCommand_9 rfl rfl ?_
  refine q_aload_n C 1 dX1_readCommand_10 rfl rfl ?_
  refine q_iload_n C 3 dX1_readCommand_11 rfl rfl ?_
  refine q_callSr0 C (kX1_wordBeginningWith r2 S) lm1_45 rfl (rest := [.ref (qa g 1), .ref (qa g 4)]) rfl (Nat.le_of_ble_eq_true rfl) dX1_readCommand_12 ⟨rfl, rfl, Nat.le_of_ble_eq_true rfl, Nat.le_of_ble_eq_true rfl, Nat.le_of_ble_eq_true rfl, Nat.le_of_ble_eq_true rfl⟩ ?_
  obtain ⟨r4, S5, hc3, h⟩ := ob2_e h
  refine q_callVi0 C ltp_4 (qmem_o kd_4 (Nat.le_of_ble_eq_true rfl)) rfl rfl (kX1_readLetters n (F1_wordBeginningWith r2 S) (F1_wordBeginningWith_lt r2 S) S hc3) lm1_49 rfl (rest := []) rfl (Nat.le_of_ble_eq_true rfl) dX1_readCommand_15 ⟨rfl, rfl, Nat.le_of_ble_eq_true rfl, Nat.le_of_ble_eq_true rfl, Nat.le_of_ble_eq_true rfl, Nat.le_of_ble_eq_true rfl⟩ ?_
  refine q_if_ne (tgt := 23) C h dX1_readCommand_18 (by decide) (fun h => ?_) (fun h => ?_)
  · refine q_aload_n C 0 dX1_readCommand_23 rfl rfl ?_
    refine s_getr (a := 5) C lf1_15 ltp_4 kd_4 rfl dX1_readCommand_24 ?_
    refine q_iload_n C 2 dX1_readCommand_27 rfl rfl ?_
    refine q_iload_n C 3 dX1_readCommand_28 rfl rfl ?_
    obtain ⟨hb6, h⟩ := q_if h
    obtain ⟨S7, hS7, h⟩ := obs_e h
    refine s_iast C ltp_5 kd_5 hb6 dX1_readCommand_29 ?_
    rw [← hS7]
    refine q_iload_n C 3 dX1_readCommand_30 rfl rfl ?_
    refine q_callSi0 C (kX1_numbersBehind r2 S7) lm1_53 rfl (rest := []) rfl (Nat.le_of_ble_eq_true rfl) dX1_readCommand_31 ⟨rfl, rfl, Nat.le_of_ble_eq_true rfl, Nat.le_of_ble_eq_true rfl, Nat.le_of_ble_eq_true rfl, Nat.le_of_ble_eq_true rfl⟩ ?_
    refine q_istore C (lv' := [(4, .int (F1_numbersBehind r2 S7)), (0, .ref (qa g 4)), (1, .ref (qa g 1)), (2, .int v2), (3, .int r2)]) dX1_readCommand_34 (by decide) rfl ?_
    refine q_norm [1, 2, 3, 4, 0] rfl ?_
    refine q_iload C 4 dX1_readCommand_36 rfl ?_
    refine q_if_le (tgt := 76) C h dX1_readCommand_38 (by decide) (fun h => ?_) (fun h => ?_)
    · refine q_norm [0, 1, 2, 4] rfl ?_
      exact W1_readCommand_76 C hr n v2 (F1_numbersBehind r2 S7) S7 h
    · refine q_aload_n C 0 dX1_readCommand_41 rfl rfl ?_
      refine q_aload_n C 1 dX1_readCommand_42 rfl rfl ?_
      obtain ⟨r20, S21, hc19, h⟩ := ob2_e h
      refine q_callVi0 C ltp_4 (qmem_o kd_4 (Nat.le_of_ble_eq_true rfl)) rfl rfl (kX1_readBlank S7 hc19) lm1_37 rfl (rest := []) rfl (Nat.le_of_ble_eq_true rfl) dX1_readCommand_43 ⟨rfl, rfl, Nat.le_of_ble_eq_true rfl, Nat.le_of_ble_eq_true rfl, Nat.le_of_ble_eq_true rfl, Nat.le_of_ble_eq_true rfl⟩ ?_
      refine q_if_eq (tgt := 63) C h dX1_readCommand_46 (by decide) (fun h => ?_) (fun h => ?_)
      · refine q_iconst (v := 0) C dX1_readCommand_63 (by decide) ?_
        obtain ⟨rfl, rfl⟩ := Prod.mk.inj (Option.some.inj h)
        exact q_zret C hr (by decide) (Nat.le_refl 0) (Nat.le_refl 0) dX1_readCommand_64
      · refine q_aload_n C 1 dX1_readCommand_49 rfl rfl ?_
        refine q_aload_n C 0 dX1_readCommand_50 rfl rfl ?_
        refine s_geti C lf1_25 ltp_4 kd_4 dX1_readCommand_51 ?_
        obtain ⟨r23, hc22, h⟩ := ob1_e h
        refine q_callVi0 C ltp_1 (qmem_o kd_1 (Nat.le_of_ble_eq_true rfl)) rfl rfl (kX4_digitAt (S21 4 4) S21 hc22) lm1_56 rfl (rest := []) rfl (Nat.le_of_ble_eq_true rfl) dX1_readCommand_54 ⟨rfl, rfl, Nat.le_of_ble_eq_true rfl, Nat.le_of_ble_eq_true rfl, Nat.le_of_ble_eq_true rfl, Nat.le_of_ble_eq_true rfl⟩ ?_
        refine q_sipush (v := (-999)) C dX1_readCommand_57 (by decide) ?_
        refine q_icmp_ne (tgt := 65) C h dX1_readCommand_60 (by decide) (fun h => ?_) (fun h => ?_)
        · refine q_aload_n C 0 dX1_readCommand_65 rfl rfl ?_
          refine s_getr (a := 6) C lf1_19 ltp_4 kd_4 rfl dX1_readCommand_66 ?_
          refine q_iload_n C 2 dX1_readCommand_69 rfl rfl ?_
          refine q_aload_n C 0 dX1_readCommand_70 rfl rfl ?_
          refine q_aload_n C 1 dX1_readCommand_71 rfl rfl ?_
          obtain ⟨r25, S26, hc24, h⟩ := ob2_e h
          refine q_callVi0 C ltp_4 (qmem_o kd_4 (Nat.le_of_ble_eq_true rfl)) rfl rfl (kX1_readNumber n S21 hc24) lm1_59 rfl (rest := [.int v2, .ref (qa g 6)]) rfl (Nat.le_of_ble_eq_true rfl) dX1_readCommand_72 ⟨rfl, rfl, Nat.le_of_ble_eq_true rfl, Nat.le_of_ble_eq_true rfl, Nat.le_of_ble_eq_true rfl, Nat.le_of_ble_eq_true rfl⟩ ?_
          obtain ⟨S27, hS27, h⟩ := obs_e h
          refine s_iast C ltp_6 kd_6 hb6 dX1_readCommand_75 ?_
          rw [← hS27]
          refine q_norm [0, 1, 2, 4] rfl ?_
          exact W1_readCommand_76 C hr n v2 (F1_numbersBehind r2 S7) S27 h
        · refine q_iconst (v := 0) C dX1_readCommand_63 (by decide) ?_
          obtain ⟨rfl, rfl⟩ := Prod.mk.inj (Option.some.inj h)
          exact q_zret C hr (by decide) (Nat.le_refl 0) (Nat.le_refl 0) dX1_readCommand_64
  · refine q_iconst (v := 0) C dX1_readCommand_21 (by decide) ?_
    obtain ⟨rfl, rfl⟩ := Prod.mk.inj (Option.some.inj h)
    exact q_zret C hr (by decide) (Nat.le_refl 0) (Nat.le_refl 0) dX1_readCommand_22
/-! ClosedStreets$PlanReader.errorIn -/
abbrev rmX1_errorIn : Room := { frames := 6, cells := 0, slots := 0, locals := 240 }
def B1_errorIn_78 (n : Nat) (S : qSt) : Option (Int32 × qSt) := some (S 4 4, S)
set_option maxRecDepth 100000 in
set_option maxHeartbeats 4000000 in
theorem W1_errorIn_78 {r : Int32} {S2 : qSt} (C : qC g cX1_errorIn RX1 3 p s m meth c) (hr : meth.sig.returnType = (some .int)) (n : Nat) (S : qSt) (h : B1_errorIn_78 n S = some (r, S2)) : qR g NL qT 3 p l e rmX1_errorIn s m args below meth c 0 0 (MQ below (qQi g NL qT (qmem g S2) r) args s 0 0 (qA g)) (qmem g S) 78 [(0, .ref (qa g 4))] [] := by
  unfold B1_errorIn_78 at h
  refine q_aload_n C 0 dX1_errorIn_78 rfl rfl ?_
  refine s_geti C lf1_25 ltp_4 kd_4 dX1_errorIn_79 ?_
  obtain ⟨rfl, rfl⟩ := Prod.mk.inj (Option.some.inj h)
  exact q_iret C hr (Nat.le_refl 0) (Nat.le_refl 0) dX1_errorIn_82
def B1_errorIn_67 (n : Nat) (S : qSt) : Option (Int32 × qSt) := some (S 4 4, S)
set_option maxRecDepth 100000 in
set_option maxHeartbeats 4000000 in
theorem W1_errorIn_67 {r : Int32} {S2 : qSt} (C : qC g cX1_errorIn RX1 3 p s m meth c) (hr : meth.sig.returnType = (some .int)) (n : Nat) (S : qSt) (h : B1_errorIn_67 n S = some (r, S2)) : qR g NL qT 3 p l e rmX1_errorIn s m args below meth c 0 0 (MQ below (qQi g NL qT (qmem g S2) r) args s 0 0 (qA g)) (qmem g S) 67 [(0, .ref (qa g 4))] [] := by
  unfold B1_errorIn_67 at h
  refine q_aload_n C 0 dX1_errorIn_67 rfl rfl ?_
  refine s_geti C lf1_25 ltp_4 kd_4 dX1_errorIn_68 ?_
  obtain ⟨rfl, rfl⟩ := Prod.mk.inj (Option.some.inj h)
  exact q_iret C hr (Nat.le_refl 0) (Nat.le_refl 0) dX1_errorIn_71
def B1_errorIn_39 (n : Nat) (S : qSt) : Option (Int32 × qSt) := some (S 4 4, S)
set_option maxRecDepth 100000 in
set_option maxHeartbeats 4000000 in
theorem W1_errorIn_39 {r : Int32} {S2 : qSt} (C : qC g cX1_errorIn RX1 3 p s m meth c) (hr : meth.sig.returnType = (some .int)) (n : Nat) (S : qSt) (h : B1_errorIn_39 n S = some (r, S2)) : qR g NL qT 3 p l e rmX1_errorIn s m args below meth c 0 0 (MQ below (qQi g NL qT (qmem g S2) r) args s 0 0 (qA g)) (qmem g S) 39 [(0, .ref (qa g 4))] [] := by
  unfold B1_errorIn_39 at h
  refine q_aload_n C 0 dX1_errorIn_39 rfl rfl ?_
  refine s_geti C lf1_25 ltp_4 kd_4 dX1_errorIn_40 ?_
  obtain ⟨rfl, rfl⟩ := Prod.mk.inj (Option.some.inj h)
  exact q_iret C hr (Nat.le_refl 0) (Nat.le_refl 0) dX1_errorIn_43
def B1_errorIn_23 (n : Nat) : Nat → Int32 → qSt → Option (Int32 × qSt)
  | 0, _, _ => none
  | n9 + 1, v2, S => if 140 ≤ v2 then (B1_errorIn_78 n S) else (ob2 (F1_readCommand n v2 S) fun r4 S5 => if ¬ r4 = 0 then (if (S5 4 4) < (S5 1 1) then (ob2 (F1_readBlank S5) fun r7 S8 => if ¬ r7 = 0 then ((B1_errorIn_23 n n9) (v2 + 1) S8) else (B1_errorIn_67 n S8)) else (some ((-999), S5))) else (B1_errorIn_39 n S5))
set_option maxRecDepth 100000 in
set_option maxHeartbeats 4000000 in
theorem W1_errorIn_23 {r : Int32} {S2 : qSt} (C : qC g cX1_errorIn RX1 3 p s m meth c) (hr : meth.sig.returnType = (some .int)) (n : Nat) : ∀ (n9 : Nat) (v2 : Int32) (S : qSt), B1_errorIn_23 n n9 v2 S = some (r, S2) → qR g NL qT 3 p l e rmX1_errorIn s m args below meth c 0 0 (MQ below (qQi g NL qT (qmem g S2) r) args s 0 0 (qA g)) (qmem g S) 23 [(0, .ref (qa g 4)), (1, .ref (qa g 1)), (2, .int v2)] [] := by
  intro n9
  induction n9 with
  | zero =>
    intro v2 S h
    have h9 : (none : Option (Int32 × qSt)) = some (r, S2) := h
    cases h9
  | succ n9 ih =>
    intro v2 S h
    rw [B1_errorIn_23] at h
    refine q_iload_n C 2 dX1_errorIn_23 rfl rfl ?_
    refine q_sipush (v := 140) C dX1_errorIn_24 (by decide) ?_
    refine q_icmp_ge (tgt := 78) C h dX1_errorIn_27 (by decide) (fun h => ?_) (fun h => ?_)
    · refine q_norm [0] rfl ?_
      exact W1_errorIn_78 C hr n S h
    · refine q_aload_n C 0 dX1_errorIn_30 rfl rfl ?_
      refine q_aload_n C 1 dX1_errorIn_31 rfl rfl ?_
      refine q_iload_n C 2 dX1_errorIn_32 rfl rfl ?_
      obtain ⟨r4, S5, hc3, h⟩ := ob2_e h
      refine q_callVi0 C ltp_4 (qmem_o kd_4 (Nat.le_of_ble_eq_true rfl)) rfl rfl (kX1_readCommand n v2 S hc3) lm1_33 rfl (rest := []) rfl (Nat.le_of_ble_eq_true rfl) dX1_errorIn_33 ⟨rfl, rfl, Nat.le_of_ble_eq_true rfl, Nat.le_of_ble_eq_true rfl, Nat.le_of_ble_eq_true rfl, Nat.le_of_ble_eq_true rfl⟩ ?_
      refine q_if_ne (tgt := 44) C h dX1_errorIn_36 (by decide) (fun h => ?_) (fun h => ?_)
      · refine q_aload_n C 0 dX1_errorIn_44 rfl rfl ?_
        refine s_geti C lf1_25 ltp_4 kd_4 dX1_errorIn_45 ?_
        refine q_aload_n C 1 dX1_errorIn_48 rfl rfl ?_
        refine s_geti C lf1_28 ltp_1 kd_1 dX1_errorIn_49 ?_
        refine q_icmp_lt (tgt := 59) C h dX1_errorIn_52 (by decide) (fun h => ?_) (fun h => ?_)
        · refine q_aload_n C 0 dX1_errorIn_59 rfl rfl ?_
          refine q_aload_n C 1 dX1_errorIn_60 rfl rfl ?_
          obtain ⟨r7, S8, hc6, h⟩ := ob2_e h
          refine q_callVi0 C ltp_4 (qmem_o kd_4 (Nat.le_of_ble_eq_true rfl)) rfl rfl (kX1_readBlank S5 hc6) lm1_37 rfl (rest := []) rfl (Nat.le_of_ble_eq_true rfl) dX1_errorIn_61 ⟨rfl, rfl, Nat.le_of_ble_eq_true rfl, Nat.le_of_ble_eq_true rfl, Nat.le_of_ble_eq_true rfl, Nat.le_of_ble_eq_true rfl⟩ ?_
          refine q_if_ne (tgt := 72) C h dX1_errorIn_64 (by decide) (fun h => ?_) (fun h => ?_)
          · refine q_iinc C 2 (v := v2 + 1) (lv' := [(2, .int (v2 + 1)), (0, .ref (qa g 4)), (1, .ref (qa g 1))]) dX1_errorIn_72 rfl rfl (by decide) rfl ?_
            refine q_norm [1, 2, 0] rfl ?_
            refine q_goto (tgt := 23) C dX1_errorIn_75 (by decide) ?_
            exact ih (v2 + 1) S8 h
          · refine q_norm [0] rfl ?_
            exact W1_errorIn_67 C hr n S8 h
        · refine q_sipush (v := (-999)) C dX1_errorIn_55 (by decide) ?_
          obtain ⟨rfl, rfl⟩ := Prod.mk.inj (Option.some.inj h)
          exact q_iret C hr (Nat.le_refl 0) (Nat.le_refl 0) dX1_errorIn_58
      · refine q_norm [0] rfl ?_
        exact W1_errorIn_39 C hr n S5 h
def F1_errorIn (n : Nat) (S : qSt) : Option (Int32 × qSt) := obs (qup S 4 4 0) fun S1 => obs (qup S1 4 0 0) fun S2 => if ¬ (S2 1 1) = 0 then (B1_errorIn_23 n n 0 S2) else (some ((-999), S2))
set_option maxRecDepth 100000 in
set_option maxHeartbeats 4000000 in
theorem kX1_errorIn {l : Launch} {g : qG} (n : Nat) (S : qSt) {r : Int32} {S2 : qSt} (h : F1_errorIn n S = some (r, S2)) : Met l yX1_errorIn [.code yX1_errorIn cX1_errorIn 3 (some .int)] rmX1_errorIn (qPc g NL qT (qmem g S) [.ref (qa g 4), .ref (qa g 1)]) (qQi g NL qT (qmem g S2) r) 0 0 (qA g) := by
  refine q_met (by decide) (Nat.le_of_ble_eq_true rfl) (fun p e s m args below meth c C hr _ => ?_)
  have C : qC g cX1_errorIn RX1 3 p s m meth c := C
  show qR g NL qT 3 p l e rmX1_errorIn s m args below meth c 0 0 (MQ below (qQi g NL qT (qmem g S2) r) args s 0 0 (qA g)) (qmem g S) 0 [(0, .ref (qa g 4)), (1, .ref (qa g 1))] []
  unfold F1_errorIn at h
  refine q_aload_n C 0 dX1_errorIn_0 rfl rfl ?_
  refine q_iconst (v := 0) C dX1_errorIn_1 (by decide) ?_
  obtain ⟨S1, hS1, h⟩ := obs_e h
  refine s_puti C lf1_25 ltp_4 kd_4 dX1_errorIn_2 ?_
  rw [← hS1]
  refine q_aload_n C 0 dX1_errorIn_5 rfl rfl ?_
  refine q_iconst (v := 0) C dX1_errorIn_6 (by decide) ?_
  obtain ⟨S2, hS2, h⟩ := obs_e h
  refine s_puti C lf1_9 ltp_4 kd_4 dX1_errorIn_7 ?_
  rw [← hS2]
  refine q_aload_n C 1 dX1_errorIn_10 rfl rfl ?_
  refine s_geti C lf1_28 ltp_1 kd_1 dX1_errorIn_11 ?_
  refine q_if_ne (tgt := 21) C h dX1_errorIn_14 (by decide) (fun h => ?_) (fun h => ?_)
  · refine q_iconst (v := 0) C dX1_errorIn_21 (by decide) ?_
    refine q_istore_n C (lv' := [(2, .int 0), (0, .ref (qa g 4)), (1, .ref (qa g 1))]) dX1_errorIn_22 rfl (by decide) rfl ?_
    refine q_norm [1, 2, 0] rfl ?_
    exact W1_errorIn_23 C hr n n 0 S2 h
  · refine q_sipush (v := (-999)) C dX1_errorIn_17 (by decide) ?_
    obtain ⟨rfl, rfl⟩ := Prod.mk.inj (Option.some.inj h)
    exact q_iret C hr (Nat.le_refl 0) (Nat.le_refl 0) dX1_errorIn_20
/-! ClosedStreets.errorPosition -/
abbrev rmX7_errorPosition : Room := { frames := 7, cells := 0, slots := 0, locals := 280 }
def F7_errorPosition (n : Nat) (v1 : Int32) (S : qSt) : Option (Int32 × qSt) := if v1 = 0 then (ob2 (F6_errorIn n 13 S) fun r2 S3 => some (r2, S3)) else (ob2 (F1_errorIn n S) fun r5 S6 => some (r5, S6))
set_option maxRecDepth 100000 in
set_option maxHeartbeats 4000000 in
theorem kX7_errorPosition {l : Launch} {g : qG} (n : Nat) (v1 : Int32) (S : qSt) {r : Int32} {S2 : qSt} (h : F7_errorPosition n v1 S = some (r, S2)) : Met l yX7_errorPosition [.code yX7_errorPosition cX7_errorPosition 2 (some .int)] rmX7_errorPosition (qPc g NL qT (qmem g S) [.ref (qa g 0), .int v1]) (qQi g NL qT (qmem g S2) r) 0 0 (qA g) := by
  refine q_met (by decide) (Nat.le_of_ble_eq_true rfl) (fun p e s m args below meth c C hr _ => ?_)
  have C : qC g cX7_errorPosition RX7 2 p s m meth c := C
  show qR g NL qT 2 p l e rmX7_errorPosition s m args below meth c 0 0 (MQ below (qQi g NL qT (qmem g S2) r) args s 0 0 (qA g)) (qmem g S) 0 [(0, .ref (qa g 0)), (1, .int v1)] []
  unfold F7_errorPosition at h
  refine q_iload_n C 1 dX7_errorPosition_0 rfl rfl ?_
  refine q_if_eq (tgt := 18) C h dX7_errorPosition_1 (by decide) (fun h => ?_) (fun h => ?_)
  · refine q_aload_n C 0 dX7_errorPosition_18 rfl rfl ?_
    refine s_getr (a := 3) C lf7_19 ltp_0 kd_0 rfl dX7_errorPosition_19 ?_
    refine q_aload_n C 0 dX7_errorPosition_22 rfl rfl ?_
    refine s_getr (a := 1) C lf7_10 ltp_0 kd_0 rfl dX7_errorPosition_23 ?_
    refine q_aload_n C 0 dX7_errorPosition_26 rfl rfl ?_
    refine s_getr (a := 13) C lf7_37 ltp_0 kd_0 rfl dX7_errorPosition_27 ?_
    obtain ⟨r2, S3, hc1, h⟩ := ob2_e h
    refine q_callVi0 C ltp_3 (qmem_o kd_3 (Nat.le_of_ble_eq_true rfl)) rfl rfl (kX6_errorIn n 13 (tyT_13) S hc1) lm7_88 rfl (rest := []) rfl (Nat.le_of_ble_eq_true rfl) dX7_errorPosition_30 ⟨rfl, rfl, Nat.le_of_ble_eq_true rfl, Nat.le_of_ble_eq_true rfl, Nat.le_of_ble_eq_true rfl, Nat.le_of_ble_eq_true rfl⟩ ?_
    obtain ⟨rfl, rfl⟩ := Prod.mk.inj (Option.some.inj h)
    exact q_iret C hr (Nat.le_refl 0) (Nat.le_refl 0) dX7_errorPosition_33
  · refine q_aload_n C 0 dX7_errorPosition_4 rfl rfl ?_
    refine s_getr (a := 4) C lf7_26 ltp_0 kd_0 rfl dX7_errorPosition_5 ?_
    refine q_aload_n C 0 dX7_errorPosition_8 rfl rfl ?_
    refine s_getr (a := 1) C lf7_10 ltp_0 kd_0 rfl dX7_errorPosition_9 ?_
    obtain ⟨r5, S6, hc4, h⟩ := ob2_e h
    refine q_callVi0 C ltp_4 (qmem_o kd_4 (Nat.le_of_ble_eq_true rfl)) rfl rfl (kX1_errorIn n S hc4) lm7_84 rfl (rest := []) rfl (Nat.le_of_ble_eq_true rfl) dX7_errorPosition_12 ⟨rfl, rfl, Nat.le_of_ble_eq_true rfl, Nat.le_of_ble_eq_true rfl, Nat.le_of_ble_eq_true rfl, Nat.le_of_ble_eq_true rfl⟩ ?_
    refine q_goto (tgt := 33) C dX7_errorPosition_15 (by decide) ?_
    obtain ⟨rfl, rfl⟩ := Prod.mk.inj (Option.some.inj h)
    exact q_iret C hr (Nat.le_refl 0) (Nat.le_refl 0) dX7_errorPosition_33
end
