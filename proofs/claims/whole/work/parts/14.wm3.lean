section
variable {l : Launch} {g : qG} {p : Program} {e : Env} {s : State} {m : MethodId} {args : Array Value} {below : List Frame} {meth : Method} {c : Code}
/-! ClosedStreetsModel.wayAt -/
abbrev rmX8_wayAt : Room := { frames := 4, cells := 0, slots := 0, locals := 160 }
def B8_wayAt_10 (n : Nat) (v1 : Int32) (t1 : Int32) (S : qSt) : Option (Int32 × qSt) := ob2 (F8_refused t1 S) fun r2 S3 => if r2 = 0 then (ob2 (F8_layWay n 114 (-999) S3) fun r5 S6 => ob1 (F8_at v1 S6) fun r8 => some (r8, S6)) else (some (0, S3))
set_option maxRecDepth 100000 in
set_option maxHeartbeats 4000000 in
theorem W8_wayAt_10 {r : Int32} {S2 : qSt} (C : qC g cX8_wayAt RX8 2 p s m meth c) (hr : meth.sig.returnType = (some .int)) (n : Nat) (v1 : Int32) (t1 : Int32) (S : qSt) (h : B8_wayAt_10 n v1 t1 S = some (r, S2)) : qR g NL qT 2 p l e rmX8_wayAt s m args below meth c 0 0 (MQ below (qQi g NL qT (qmem g S2) r) args s 0 0 (qA g)) (qmem g S) 10 [(0, .ref (qa g 111)), (1, .int v1)] [.int t1, .ref (qa g 111)] := by
  unfold B8_wayAt_10 at h
  obtain ⟨r2, S3, hc1, h⟩ := ob2_e h
  refine q_callVi0 C ltp_111 (qmem_o kd_111 (Nat.le_of_ble_eq_true rfl)) rfl rfl (kX8_refused t1 S hc1) lm8_103 rfl (rest := []) rfl (Nat.le_of_ble_eq_true rfl) dX8_wayAt_10 ⟨rfl, rfl, Nat.le_of_ble_eq_true rfl, Nat.le_of_ble_eq_true rfl, Nat.le_of_ble_eq_true rfl, Nat.le_of_ble_eq_true rfl⟩ ?_
  refine q_if_eq (tgt := 18) C h dX8_wayAt_13 (by decide) (fun h => ?_) (fun h => ?_)
  · refine q_aload_n C 0 dX8_wayAt_18 rfl rfl ?_
    refine q_aload_n C 0 dX8_wayAt_19 rfl rfl ?_
    refine s_getr (a := 114) C lf8_16 ltp_111 kd_111 rfl dX8_wayAt_20 ?_
    refine q_sipush (v := (-999)) C dX8_wayAt_23 (by decide) ?_
    obtain ⟨r5, S6, hc4, h⟩ := ob2_e h
    refine q_callVi0 C ltp_111 (qmem_o kd_111 (Nat.le_of_ble_eq_true rfl)) rfl rfl (kX8_layWay n 114 (tyI_114) (-999) S3 hc4) lm8_170 rfl (rest := []) rfl (Nat.le_of_ble_eq_true rfl) dX8_wayAt_26 ⟨rfl, rfl, Nat.le_of_ble_eq_true rfl, Nat.le_of_ble_eq_true rfl, Nat.le_of_ble_eq_true rfl, Nat.le_of_ble_eq_true rfl⟩ ?_
    refine q_pop C dX8_wayAt_29 rfl ?_
    refine q_aload_n C 0 dX8_wayAt_30 rfl rfl ?_
    refine q_iload_n C 1 dX8_wayAt_31 rfl rfl ?_
    obtain ⟨r8, hc7, h⟩ := ob1_e h
    refine q_callVi0 C ltp_111 (qmem_o kd_111 (Nat.le_of_ble_eq_true rfl)) rfl rfl (kX8_at v1 S6 hc7) lm8_187 rfl (rest := []) rfl (Nat.le_of_ble_eq_true rfl) dX8_wayAt_32 ⟨rfl, rfl, Nat.le_of_ble_eq_true rfl, Nat.le_of_ble_eq_true rfl, Nat.le_of_ble_eq_true rfl, Nat.le_of_ble_eq_true rfl⟩ ?_
    obtain ⟨rfl, rfl⟩ := Prod.mk.inj (Option.some.inj h)
    exact q_iret C hr (Nat.le_refl 0) (Nat.le_refl 0) dX8_wayAt_35
  · refine q_iconst (v := 0) C dX8_wayAt_16 (by decide) ?_
    obtain ⟨rfl, rfl⟩ := Prod.mk.inj (Option.some.inj h)
    exact q_iret C hr (Nat.le_refl 0) (Nat.le_refl 0) dX8_wayAt_17
def F8_wayAt (n : Nat) (v1 : Int32) (S : qSt) : Option (Int32 × qSt) := if 0 ≤ v1 then (B8_wayAt_10 n v1 0 S) else (B8_wayAt_10 n v1 1 S)
set_option maxRecDepth 100000 in
set_option maxHeartbeats 4000000 in
theorem kX8_wayAt {l : Launch} {g : qG} (n : Nat) (v1 : Int32) (S : qSt) {r : Int32} {S2 : qSt} (h : F8_wayAt n v1 S = some (r, S2)) : Met l yX8_wayAt [.code yX8_wayAt cX8_wayAt 2 (some .int)] rmX8_wayAt (qPc g NL qT (qmem g S) [.ref (qa g 111), .int v1]) (qQi g NL qT (qmem g S2) r) 0 0 (qA g) := by
  refine q_met (by decide) (Nat.le_of_ble_eq_true rfl) (fun p e s m args below meth c C hr _ => ?_)
  have C : qC g cX8_wayAt RX8 2 p s m meth c := C
  show qR g NL qT 2 p l e rmX8_wayAt s m args below meth c 0 0 (MQ below (qQi g NL qT (qmem g S2) r) args s 0 0 (qA g)) (qmem g S) 0 [(0, .ref (qa g 111)), (1, .int v1)] []
  unfold F8_wayAt at h
  refine q_aload_n C 0 dX8_wayAt_0 rfl rfl ?_
  refine q_iload_n C 1 dX8_wayAt_1 rfl rfl ?_
  refine q_if_ge (tgt := 9) C h dX8_wayAt_2 (by decide) (fun h => ?_) (fun h => ?_)
  · refine q_iconst (v := 0) C dX8_wayAt_9 (by decide) ?_
    exact W8_wayAt_10 C hr n v1 0 S h
  · refine q_iconst (v := 1) C dX8_wayAt_5 (by decide) ?_
    refine q_goto (tgt := 10) C dX8_wayAt_6 (by decide) ?_
    exact W8_wayAt_10 C hr n v1 1 S h
/-! ClosedStreetsModel.remember -/
abbrev rmX8_remember : Room := { frames := 1, cells := 0, slots := 0, locals := 40 }
def B8_remember_49 (n : Nat) (S : qSt) : Option qSt := ob1 (F8_copyTown n 114 0 116 (84 * (S 111 8)) S) fun S2 => some (qup S2 111 8 ((S2 111 8) + 1))
set_option maxRecDepth 100000 in
set_option maxHeartbeats 4000000 in
theorem W8_remember_49 {S2 : qSt} (C : qC g cX8_remember RX8 2 p s m meth c) (hr : meth.sig.returnType = none) (n : Nat) (S : qSt) (h : B8_remember_49 n S = some S2) : qR g NL qT 2 p l e rmX8_remember s m args below meth c 0 0 (MQ below (qQv g NL qT (qmem g S2)) args s 0 0 (qA g)) (qmem g S) 49 [(0, .ref (qa g 111))] [] := by
  unfold B8_remember_49 at h
  refine q_aload_n C 0 dX8_remember_49 rfl rfl ?_
  refine s_getr (a := 114) C lf8_16 ltp_111 kd_111 rfl dX8_remember_50 ?_
  refine q_iconst (v := 0) C dX8_remember_53 (by decide) ?_
  refine q_aload_n C 0 dX8_remember_54 rfl rfl ?_
  refine s_getr (a := 116) C lf8_22 ltp_111 kd_111 rfl dX8_remember_55 ?_
  refine q_bipush (v := 84) C dX8_remember_58 (by decide) ?_
  refine q_aload_n C 0 dX8_remember_60 rfl rfl ?_
  refine s_geti C lf8_158 ltp_111 kd_111 dX8_remember_61 ?_
  refine q_imul C dX8_remember_64 ?_
  obtain ⟨S2, hc1, h⟩ := ob1_e h
  refine q_callSv0 C (kX8_copyTown n 114 (tyI_114) 0 116 (tyI_116) (84 * (S 111 8)) S hc1) lm8_161 rfl (rest := []) rfl (Nat.le_of_ble_eq_true rfl) dX8_remember_65 ⟨rfl, rfl, Nat.le_of_ble_eq_true rfl, Nat.le_of_ble_eq_true rfl, Nat.le_of_ble_eq_true rfl, Nat.le_of_ble_eq_true rfl⟩ ?_
  refine q_aload_n C 0 dX8_remember_68 rfl rfl ?_
  refine q_dup C dX8_remember_69 rfl ?_
  refine s_geti C lf8_158 ltp_111 kd_111 dX8_remember_70 ?_
  refine q_iconst (v := 1) C dX8_remember_73 (by decide) ?_
  refine q_iadd C dX8_remember_74 ?_
  refine s_puti C lf8_158 ltp_111 kd_111 dX8_remember_75 ?_
  obtain rfl := Option.some.inj h
  exact q_vret C hr (Nat.le_refl 0) (Nat.le_refl 0) dX8_remember_78
def B8_remember_39 (n : Nat) (S : qSt) : Option qSt := obs (qup S 111 8 ((S 111 8) - 1)) fun S3 => B8_remember_49 n S3
set_option maxRecDepth 100000 in
set_option maxHeartbeats 4000000 in
theorem W8_remember_39 {S2 : qSt} (C : qC g cX8_remember RX8 2 p s m meth c) (hr : meth.sig.returnType = none) (n : Nat) (S : qSt) (h : B8_remember_39 n S = some S2) : qR g NL qT 2 p l e rmX8_remember s m args below meth c 0 0 (MQ below (qQv g NL qT (qmem g S2)) args s 0 0 (qA g)) (qmem g S) 39 [(0, .ref (qa g 111))] [] := by
  unfold B8_remember_39 at h
  refine q_aload_n C 0 dX8_remember_39 rfl rfl ?_
  refine q_dup C dX8_remember_40 rfl ?_
  refine s_geti C lf8_158 ltp_111 kd_111 dX8_remember_41 ?_
  refine q_iconst (v := 1) C dX8_remember_44 (by decide) ?_
  refine q_isub C dX8_remember_45 ?_
  obtain ⟨S3, hS3, h⟩ := obs_e h
  refine s_puti C lf8_158 ltp_111 kd_111 dX8_remember_46 ?_
  rw [← hS3]
  exact W8_remember_49 C hr n S3 h
def B8_remember_11 (n : Nat) : Nat → Int32 → qSt → Option qSt
  | 0, _, _ => none
  | n9 + 1, v1, S => if 1092 ≤ v1 then (B8_remember_39 n S) else (if qin (v1 + 84) 1176 = true then if qin v1 1176 = true then obs (qup S 116 v1.toNatClampNeg (S 116 (v1 + 84).toNatClampNeg)) fun S6 => (B8_remember_11 n n9) (v1 + 1) S6 else none else none)
set_option maxRecDepth 100000 in
set_option maxHeartbeats 4000000 in
theorem W8_remember_11 {S2 : qSt} (C : qC g cX8_remember RX8 2 p s m meth c) (hr : meth.sig.returnType = none) (n : Nat) : ∀ (n9 : Nat) (v1 : Int32) (S : qSt), B8_remember_11 n n9 v1 S = some S2 → qR g NL qT 2 p l e rmX8_remember s m args below meth c 0 0 (MQ below (qQv g NL qT (qmem g S2)) args s 0 0 (qA g)) (qmem g S) 11 [(0, .ref (qa g 111)), (1, .int v1)] [] := by
  intro n9
  induction n9 with
  | zero =>
    intro v1 S h
    have h9 : (none : Option qSt) = some S2 := h
    cases h9
  | succ n9 ih =>
    intro v1 S h
    rw [B8_remember_11] at h
    refine q_iload_n C 1 dX8_remember_11 rfl rfl ?_
    refine q_sipush (v := 1092) C dX8_remember_12 (by decide) ?_
    refine q_icmp_ge (tgt := 39) C h dX8_remember_15 (by decide) (fun h => ?_) (fun h => ?_)
    · refine q_norm [0] rfl ?_
      exact W8_remember_39 C hr n S h
    · refine q_aload_n C 0 dX8_remember_18 rfl rfl ?_
      refine s_getr (a := 116) C lf8_22 ltp_111 kd_111 rfl dX8_remember_19 ?_
      refine q_iload_n C 1 dX8_remember_22 rfl rfl ?_
      refine q_aload_n C 0 dX8_remember_23 rfl rfl ?_
      refine s_getr (a := 116) C lf8_22 ltp_111 kd_111 rfl dX8_remember_24 ?_
      refine q_iload_n C 1 dX8_remember_27 rfl rfl ?_
      refine q_bipush (v := 84) C dX8_remember_28 (by decide) ?_
      refine q_iadd C dX8_remember_30 ?_
      obtain ⟨hb4, h⟩ := q_if h
      refine s_iald C ltp_116 kd_116 hb4 dX8_remember_31 ?_
      obtain ⟨hb5, h⟩ := q_if h
      obtain ⟨S6, hS6, h⟩ := obs_e h
      refine s_iast C ltp_116 kd_116 hb5 dX8_remember_32 ?_
      rw [← hS6]
      refine q_iinc C 1 (v := v1 + 1) (lv' := [(1, .int (v1 + 1)), (0, .ref (qa g 111))]) dX8_remember_33 rfl rfl (by decide) rfl ?_
      refine q_norm [1, 0] rfl ?_
      refine q_goto (tgt := 11) C dX8_remember_36 (by decide) ?_
      exact ih (v1 + 1) S6 h
def F8_remember (n : Nat) (S : qSt) : Option qSt := if ¬ (S 111 8) = 14 then (B8_remember_49 n S) else (B8_remember_11 n n 0 S)
set_option maxRecDepth 100000 in
set_option maxHeartbeats 4000000 in
theorem kX8_remember {l : Launch} {g : qG} (n : Nat) (S : qSt) {S2 : qSt} (h : F8_remember n S = some S2) : Met l yX8_remember [.code yX8_remember cX8_remember 2 none] rmX8_remember (qPc g NL qT (qmem g S) [.ref (qa g 111)]) (qQv g NL qT (qmem g S2)) 0 0 (qA g) := by
  refine q_met (by decide) (Nat.le_of_ble_eq_true rfl) (fun p e s m args below meth c C hr _ => ?_)
  have C : qC g cX8_remember RX8 2 p s m meth c := C
  show qR g NL qT 2 p l e rmX8_remember s m args below meth c 0 0 (MQ below (qQv g NL qT (qmem g S2)) args s 0 0 (qA g)) (qmem g S) 0 [(0, .ref (qa g 111))] []
  unfold F8_remember at h
  refine q_aload_n C 0 dX8_remember_0 rfl rfl ?_
  refine s_geti C lf8_158 ltp_111 kd_111 dX8_remember_1 ?_
  refine q_bipush (v := 14) C dX8_remember_4 (by decide) ?_
  refine q_icmp_ne (tgt := 49) C h dX8_remember_6 (by decide) (fun h => ?_) (fun h => ?_)
  · exact W8_remember_49 C hr n S h
  · refine q_iconst (v := 0) C dX8_remember_9 (by decide) ?_
    refine q_istore_n C (lv' := [(1, .int 0), (0, .ref (qa g 111))]) dX8_remember_10 rfl (by decide) rfl ?_
    refine q_norm [1, 0] rfl ?_
    exact W8_remember_11 C hr n n 0 S h
/-! ClosedStreetsModel.addCrossing -/
abbrev rmX8_addCrossing : Room := { frames := 2, cells := 0, slots := 0, locals := 80 }
def B8_addCrossing_17 (n : Nat) (t1 : Int32) (S : qSt) : Option (Int32 × qSt) := ob2 (F8_refused t1 S) fun r2 S3 => if r2 = 0 then (ob1 (F8_remember n S3) fun S5 => obs (qup S5 114 (0 : Int32).toNatClampNeg ((S5 114 (0 : Int32).toNatClampNeg) + 1)) fun S6 => some ((S6 114 (0 : Int32).toNatClampNeg) - 1, S6)) else (some (0, S3))
set_option maxRecDepth 100000 in
set_option maxHeartbeats 4000000 in
theorem W8_addCrossing_17 {r : Int32} {S2 : qSt} (C : qC g cX8_addCrossing RX8 1 p s m meth c) (hr : meth.sig.returnType = (some .int)) (n : Nat) (t1 : Int32) (S : qSt) (h : B8_addCrossing_17 n t1 S = some (r, S2)) : qR g NL qT 1 p l e rmX8_addCrossing s m args below meth c 0 0 (MQ below (qQi g NL qT (qmem g S2) r) args s 0 0 (qA g)) (qmem g S) 17 [(0, .ref (qa g 111))] [.int t1, .ref (qa g 111)] := by
  unfold B8_addCrossing_17 at h
  obtain ⟨r2, S3, hc1, h⟩ := ob2_e h
  refine q_callVi0 C ltp_111 (qmem_o kd_111 (Nat.le_of_ble_eq_true rfl)) rfl rfl (kX8_refused t1 S hc1) lm8_103 rfl (rest := []) rfl (Nat.le_of_ble_eq_true rfl) dX8_addCrossing_17 ⟨rfl, rfl, Nat.le_of_ble_eq_true rfl, Nat.le_of_ble_eq_true rfl, Nat.le_of_ble_eq_true rfl, Nat.le_of_ble_eq_true rfl⟩ ?_
  refine q_if_eq (tgt := 25) C h dX8_addCrossing_20 (by decide) (fun h => ?_) (fun h => ?_)
  · refine q_aload_n C 0 dX8_addCrossing_25 rfl rfl ?_
    obtain ⟨S5, hc4, h⟩ := ob1_e h
    refine q_callVv0 C ltp_111 (qmem_o kd_111 (Nat.le_of_ble_eq_true rfl)) rfl rfl (kX8_remember n S3 hc4) lm8_190 rfl (rest := []) rfl (Nat.le_of_ble_eq_true rfl) dX8_addCrossing_26 ⟨rfl, rfl, Nat.le_of_ble_eq_true rfl, Nat.le_of_ble_eq_true rfl, Nat.le_of_ble_eq_true rfl, Nat.le_of_ble_eq_true rfl⟩ ?_
    refine q_aload_n C 0 dX8_addCrossing_29 rfl rfl ?_
    refine s_getr (a := 114) C lf8_16 ltp_111 kd_111 rfl dX8_addCrossing_30 ?_
    refine q_iconst (v := 0) C dX8_addCrossing_33 (by decide) ?_
    refine q_dup2 C dX8_addCrossing_34 rfl rfl ?_
    refine s_iald C ltp_114 kd_114 (by decide) dX8_addCrossing_35 ?_
    refine q_iconst (v := 1) C dX8_addCrossing_36 (by decide) ?_
    refine q_iadd C dX8_addCrossing_37 ?_
    obtain ⟨S6, hS6, h⟩ := obs_e h
    refine s_iast C ltp_114 kd_114 (by decide) dX8_addCrossing_38 ?_
    rw [← hS6]
    refine q_aload_n C 0 dX8_addCrossing_39 rfl rfl ?_
    refine s_getr (a := 114) C lf8_16 ltp_111 kd_111 rfl dX8_addCrossing_40 ?_
    refine q_iconst (v := 0) C dX8_addCrossing_43 (by decide) ?_
    refine s_iald C ltp_114 kd_114 (by decide) dX8_addCrossing_44 ?_
    refine q_iconst (v := 1) C dX8_addCrossing_45 (by decide) ?_
    refine q_isub C dX8_addCrossing_46 ?_
    obtain ⟨rfl, rfl⟩ := Prod.mk.inj (Option.some.inj h)
    exact q_iret C hr (Nat.le_refl 0) (Nat.le_refl 0) dX8_addCrossing_47
  · refine q_iconst (v := 0) C dX8_addCrossing_23 (by decide) ?_
    obtain ⟨rfl, rfl⟩ := Prod.mk.inj (Option.some.inj h)
    exact q_iret C hr (Nat.le_refl 0) (Nat.le_refl 0) dX8_addCrossing_24
def F8_addCrossing (n : Nat) (S : qSt) : Option (Int32 × qSt) := if ¬ (S 114 (0 : Int32).toNatClampNeg) = 9 then (B8_addCrossing_17 n 0 S) else (B8_addCrossing_17 n 1 S)
set_option maxRecDepth 100000 in
set_option maxHeartbeats 4000000 in
theorem kX8_addCrossing {l : Launch} {g : qG} (n : Nat) (S : qSt) {r : Int32} {S2 : qSt} (h : F8_addCrossing n S = some (r, S2)) : Met l yX8_addCrossing [.code yX8_addCrossing cX8_addCrossing 1 (some .int)] rmX8_addCrossing (qPc g NL qT (qmem g S) [.ref (qa g 111)]) (qQi g NL qT (qmem g S2) r) 0 0 (qA g) := by
  refine q_met (by decide) (Nat.le_of_ble_eq_true rfl) (fun p e s m args below meth c C hr _ => ?_)
  have C : qC g cX8_addCrossing RX8 1 p s m meth c := C
  show qR g NL qT 1 p l e rmX8_addCrossing s m args below meth c 0 0 (MQ below (qQi g NL qT (qmem g S2) r) args s 0 0 (qA g)) (qmem g S) 0 [(0, .ref (qa g 111))] []
  unfold F8_addCrossing at h
  refine q_aload_n C 0 dX8_addCrossing_0 rfl rfl ?_
  refine q_aload_n C 0 dX8_addCrossing_1 rfl rfl ?_
  refine s_getr (a := 114) C lf8_16 ltp_111 kd_111 rfl dX8_addCrossing_2 ?_
  refine q_iconst (v := 0) C dX8_addCrossing_5 (by decide) ?_
  refine s_iald C ltp_114 kd_114 (by decide) dX8_addCrossing_6 ?_
  refine q_bipush (v := 9) C dX8_addCrossing_7 (by decide) ?_
  refine q_icmp_ne (tgt := 16) C h dX8_addCrossing_9 (by decide) (fun h => ?_) (fun h => ?_)
  · refine q_iconst (v := 0) C dX8_addCrossing_16 (by decide) ?_
    exact W8_addCrossing_17 C hr n 0 S h
  · refine q_iconst (v := 1) C dX8_addCrossing_12 (by decide) ?_
    refine q_goto (tgt := 17) C dX8_addCrossing_13 (by decide) ?_
    exact W8_addCrossing_17 C hr n 1 S h
/-! ClosedStreetsModel.whyNotBuild -/
abbrev rmX8_whyNotBuild : Room := { frames := 2, cells := 0, slots := 0, locals := 80 }
def B8_whyNotBuild_57 (n : Nat) (a0 : Nat) (S : qSt) : Option Int32 := some 3
set_option maxRecDepth 100000 in
set_option maxHeartbeats 4000000 in
theorem W8_whyNotBuild_57 {r : Int32} (C : qC g cX8_whyNotBuild RX8 4 p s m meth c) (hr : meth.sig.returnType = (some .int)) (n : Nat) (a0 : Nat) (ha0 : tyI a0) (S : qSt) (h : B8_whyNotBuild_57 n a0 S = some r) : qR g NL qT 4 p l e rmX8_whyNotBuild s m args below meth c 0 0 (MQ below (qQi g NL qT (qmem g S) r) args s 0 0 (qA g)) (qmem g S) 57 [] [] := by
  unfold B8_whyNotBuild_57 at h
  refine q_iconst (v := 3) C dX8_whyNotBuild_57 (by decide) ?_
  refine q_goto (tgt := 62) C dX8_whyNotBuild_58 (by decide) ?_
  obtain rfl := Option.some.inj h
  exact q_iret C hr (Nat.le_refl 0) (Nat.le_refl 0) dX8_whyNotBuild_62
def F8_whyNotBuild (n : Nat) (a0 : Nat) (v1 : Int32) (v2 : Int32) (v3 : Int32) (S : qSt) : Option Int32 := ob1 (F8_isCrossing a0 v1 S) fun r2 => if r2 = 0 then (some 1) else (ob1 (F8_isCrossing a0 v2 S) fun r4 => if ¬ r4 = 0 then (if v1 = v2 then (some 2) else (if ¬ (F8_in v3.toInt64 1 99 S) = 0 then (ob1 (F8_joined n a0 v1 v2 S) fun r6 => if ¬ r6 = (-999) then (B8_whyNotBuild_57 n a0 S) else (if qin (1 : Int32) (kd a0).2 = true then if ¬ (S a0 (1 : Int32).toNatClampNeg) = 20 then (some 0) else (B8_whyNotBuild_57 n a0 S) else none)) else (some 2))) else (some 1))
set_option maxRecDepth 100000 in
set_option maxHeartbeats 4000000 in
theorem kX8_whyNotBuild {l : Launch} {g : qG} (n : Nat) (a0 : Nat) (ha0 : tyI a0) (v1 : Int32) (v2 : Int32) (v3 : Int32) (S : qSt) {r : Int32} (h : F8_whyNotBuild n a0 v1 v2 v3 S = some r) : Met l yX8_whyNotBuild [.code yX8_whyNotBuild cX8_whyNotBuild 4 (some .int)] rmX8_whyNotBuild (qPc g NL qT (qmem g S) [.ref (qa g a0), .int v1, .int v2, .int v3]) (qQi g NL qT (qmem g S) r) 0 0 (qA g) := by
  refine q_met (by decide) (Nat.le_of_ble_eq_true rfl) (fun p e s m args below meth c C hr _ => ?_)
  have C : qC g cX8_whyNotBuild RX8 4 p s m meth c := C
  show qR g NL qT 4 p l e rmX8_whyNotBuild s m args below meth c 0 0 (MQ below (qQi g NL qT (qmem g S) r) args s 0 0 (qA g)) (qmem g S) 0 [(0, .ref (qa g a0)), (1, .int v1), (2, .int v2), (3, .int v3)] []
  unfold F8_whyNotBuild at h
  refine q_aload_n C 0 dX8_whyNotBuild_0 rfl rfl ?_
  refine q_iload_n C 1 dX8_whyNotBuild_1 rfl rfl ?_
  obtain ⟨r2, hc1, h⟩ := ob1_e h
  refine q_callSi0 C (kX8_isCrossing a0 (ha0) v1 S hc1) lm8_182 rfl (rest := []) rfl (Nat.le_of_ble_eq_true rfl) dX8_whyNotBuild_2 ⟨rfl, rfl, Nat.le_of_ble_eq_true rfl, Nat.le_of_ble_eq_true rfl, Nat.le_of_ble_eq_true rfl, Nat.le_of_ble_eq_true rfl⟩ ?_
  refine q_if_eq (tgt := 16) C h dX8_whyNotBuild_5 (by decide) (fun h => ?_) (fun h => ?_)
  · refine q_iconst (v := 1) C dX8_whyNotBuild_16 (by decide) ?_
    obtain rfl := Option.some.inj h
    exact q_iret C hr (Nat.le_refl 0) (Nat.le_refl 0) dX8_whyNotBuild_17
  · refine q_aload_n C 0 dX8_whyNotBuild_8 rfl rfl ?_
    refine q_iload_n C 2 dX8_whyNotBuild_9 rfl rfl ?_
    obtain ⟨r4, hc3, h⟩ := ob1_e h
    refine q_callSi0 C (kX8_isCrossing a0 (ha0) v2 S hc3) lm8_182 rfl (rest := []) rfl (Nat.le_of_ble_eq_true rfl) dX8_whyNotBuild_10 ⟨rfl, rfl, Nat.le_of_ble_eq_true rfl, Nat.le_of_ble_eq_true rfl, Nat.le_of_ble_eq_true rfl, Nat.le_of_ble_eq_true rfl⟩ ?_
    refine q_if_ne (tgt := 18) C h dX8_whyNotBuild_13 (by decide) (fun h => ?_) (fun h => ?_)
    · refine q_iload_n C 1 dX8_whyNotBuild_18 rfl rfl ?_
      refine q_iload_n C 2 dX8_whyNotBuild_19 rfl rfl ?_
      refine q_icmp_eq (tgt := 35) C h dX8_whyNotBuild_20 (by decide) (fun h => ?_) (fun h => ?_)
      · refine q_iconst (v := 2) C dX8_whyNotBuild_35 (by decide) ?_
        obtain rfl := Option.some.inj h
        exact q_iret C hr (Nat.le_refl 0) (Nat.le_refl 0) dX8_whyNotBuild_36
      · refine q_iload_n C 3 dX8_whyNotBuild_23 rfl rfl ?_
        refine q_i2l C dX8_whyNotBuild_24 rfl ?_
        refine q_lconst (v := 1) C dX8_whyNotBuild_25 (by decide) ?_
        refine q_ldc2 (v := 99) C lc8_193 dX8_whyNotBuild_26 ?_
        refine q_callSi0 C (kX8_in v3.toInt64 1 99 S) lm8_65 rfl (rest := []) rfl (Nat.le_of_ble_eq_true rfl) dX8_whyNotBuild_29 ⟨rfl, rfl, Nat.le_of_ble_eq_true rfl, Nat.le_of_ble_eq_true rfl, Nat.le_of_ble_eq_true rfl, Nat.le_of_ble_eq_true rfl⟩ ?_
        refine q_if_ne (tgt := 37) C h dX8_whyNotBuild_32 (by decide) (fun h => ?_) (fun h => ?_)
        · refine q_aload_n C 0 dX8_whyNotBuild_37 rfl rfl ?_
          refine q_iload_n C 1 dX8_whyNotBuild_38 rfl rfl ?_
          refine q_iload_n C 2 dX8_whyNotBuild_39 rfl rfl ?_
          obtain ⟨r6, hc5, h⟩ := ob1_e h
          refine q_callSi0 C (kX8_joined n a0 (ha0) v1 v2 S hc5) lm8_118 rfl (rest := []) rfl (Nat.le_of_ble_eq_true rfl) dX8_whyNotBuild_40 ⟨rfl, rfl, Nat.le_of_ble_eq_true rfl, Nat.le_of_ble_eq_true rfl, Nat.le_of_ble_eq_true rfl, Nat.le_of_ble_eq_true rfl⟩ ?_
          refine q_sipush (v := (-999)) C dX8_whyNotBuild_43 (by decide) ?_
          refine q_icmp_ne (tgt := 57) C h dX8_whyNotBuild_46 (by decide) (fun h => ?_) (fun h => ?_)
          · refine q_norm [] rfl ?_
            exact W8_whyNotBuild_57 C hr n a0 ha0 S h
          · refine q_aload_n C 0 dX8_whyNotBuild_49 rfl rfl ?_
            refine q_iconst (v := 1) C dX8_whyNotBuild_50 (by decide) ?_
            obtain ⟨hb7, h⟩ := q_if h
            refine s_iald C ha0.1 ha0.2 hb7 dX8_whyNotBuild_51 ?_
            refine q_bipush (v := 20) C dX8_whyNotBuild_52 (by decide) ?_
            refine q_icmp_ne (tgt := 61) C h dX8_whyNotBuild_54 (by decide) (fun h => ?_) (fun h => ?_)
            · refine q_iconst (v := 0) C dX8_whyNotBuild_61 (by decide) ?_
              obtain rfl := Option.some.inj h
              exact q_iret C hr (Nat.le_refl 0) (Nat.le_refl 0) dX8_whyNotBuild_62
            · refine q_norm [] rfl ?_
              exact W8_whyNotBuild_57 C hr n a0 ha0 S h
        · refine q_iconst (v := 2) C dX8_whyNotBuild_35 (by decide) ?_
          obtain rfl := Option.some.inj h
          exact q_iret C hr (Nat.le_refl 0) (Nat.le_refl 0) dX8_whyNotBuild_36
    · refine q_iconst (v := 1) C dX8_whyNotBuild_16 (by decide) ?_
      obtain rfl := Option.some.inj h
      exact q_iret C hr (Nat.le_refl 0) (Nat.le_refl 0) dX8_whyNotBuild_17
/-! ClosedStreetsModel.addStreet -/
abbrev rmX8_addStreet : Room := { frames := 3, cells := 0, slots := 0, locals := 120 }
def F8_addStreet (n : Nat) (v1 : Int32) (v2 : Int32) (v3 : Int32) (S : qSt) : Option (Int32 × qSt) := ob1 (F8_whyNotBuild n 114 v1 v2 v3 S) fun r2 => ob2 (F8_refused r2 S) fun r4 S5 => if r4 = 0 then (ob1 (F8_remember n S5) fun S7 => ob2 (F8_build 114 v1 v2 v3 S7) fun r9 S10 => some (r9, S10)) else (some (0, S5))
set_option maxRecDepth 100000 in
set_option maxHeartbeats 4000000 in
theorem kX8_addStreet {l : Launch} {g : qG} (n : Nat) (v1 : Int32) (v2 : Int32) (v3 : Int32) (S : qSt) {r : Int32} {S2 : qSt} (h : F8_addStreet n v1 v2 v3 S = some (r, S2)) : Met l yX8_addStreet [.code yX8_addStreet cX8_addStreet 4 (some .int)] rmX8_addStreet (qPc g NL qT (qmem g S) [.ref (qa g 111), .int v1, .int v2, .int v3]) (qQi g NL qT (qmem g S2) r) 0 0 (qA g) := by
  refine q_met (by decide) (Nat.le_of_ble_eq_true rfl) (fun p e s m args below meth c C hr _ => ?_)
  have C : qC g cX8_addStreet RX8 4 p s m meth c := C
  show qR g NL qT 4 p l e rmX8_addStreet s m args below meth c 0 0 (MQ below (qQi g NL qT (qmem g S2) r) args s 0 0 (qA g)) (qmem g S) 0 [(0, .ref (qa g 111)), (1, .int v1), (2, .int v2), (3, .int v3)] []
  unfold F8_addStreet at h
  refine q_aload_n C 0 dX8_addStreet_0 rfl rfl ?_
  refine q_aload_n C 0 dX8_addStreet_1 rfl rfl ?_
  refine s_getr (a := 114) C lf8_16 ltp_111 kd_111 rfl dX8_addStreet_2 ?_
  refine q_iload_n C 1 dX8_addStreet_5 rfl rfl ?_
  refine q_iload_n C 2 dX8_addStreet_6 rfl rfl ?_
  refine q_iload_n C 3 dX8_addStreet_7 rfl rfl ?_
  obtain ⟨r2, hc1, h⟩ := ob1_e h
  refine q_callSi0 C (kX8_whyNotBuild n 114 (tyI_114) v1 v2 v3 S hc1) lm8_195 rfl (rest := [.ref (qa g 111)]) rfl (Nat.le_of_ble_eq_true rfl) dX8_addStreet_8 ⟨rfl, rfl, Nat.le_of_ble_eq_true rfl, Nat.le_of_ble_eq_true rfl, Nat.le_of_ble_eq_true rfl, Nat.le_of_ble_eq_true rfl⟩ ?_
  obtain ⟨r4, S5, hc3, h⟩ := ob2_e h
  refine q_callVi0 C ltp_111 (qmem_o kd_111 (Nat.le_of_ble_eq_true rfl)) rfl rfl (kX8_refused r2 S hc3) lm8_103 rfl (rest := []) rfl (Nat.le_of_ble_eq_true rfl) dX8_addStreet_11 ⟨rfl, rfl, Nat.le_of_ble_eq_true rfl, Nat.le_of_ble_eq_true rfl, Nat.le_of_ble_eq_true rfl, Nat.le_of_ble_eq_true rfl⟩ ?_
  refine q_if_eq (tgt := 19) C h dX8_addStreet_14 (by decide) (fun h => ?_) (fun h => ?_)
  · refine q_aload_n C 0 dX8_addStreet_19 rfl rfl ?_
    obtain ⟨S7, hc6, h⟩ := ob1_e h
    refine q_callVv0 C ltp_111 (qmem_o kd_111 (Nat.le_of_ble_eq_true rfl)) rfl rfl (kX8_remember n S5 hc6) lm8_190 rfl (rest := []) rfl (Nat.le_of_ble_eq_true rfl) dX8_addStreet_20 ⟨rfl, rfl, Nat.le_of_ble_eq_true rfl, Nat.le_of_ble_eq_true rfl, Nat.le_of_ble_eq_true rfl, Nat.le_of_ble_eq_true rfl⟩ ?_
    refine q_aload_n C 0 dX8_addStreet_23 rfl rfl ?_
    refine s_getr (a := 114) C lf8_16 ltp_111 kd_111 rfl dX8_addStreet_24 ?_
    refine q_iload_n C 1 dX8_addStreet_27 rfl rfl ?_
    refine q_iload_n C 2 dX8_addStreet_28 rfl rfl ?_
    refine q_iload_n C 3 dX8_addStreet_29 rfl rfl ?_
    obtain ⟨r9, S10, hc8, h⟩ := ob2_e h
    refine q_callSi0 C (kX8_build 114 (tyI_114) v1 v2 v3 S7 hc8) lm8_122 rfl (rest := []) rfl (Nat.le_of_ble_eq_true rfl) dX8_addStreet_30 ⟨rfl, rfl, Nat.le_of_ble_eq_true rfl, Nat.le_of_ble_eq_true rfl, Nat.le_of_ble_eq_true rfl, Nat.le_of_ble_eq_true rfl⟩ ?_
    obtain ⟨rfl, rfl⟩ := Prod.mk.inj (Option.some.inj h)
    exact q_iret C hr (Nat.le_refl 0) (Nat.le_refl 0) dX8_addStreet_33
  · refine q_iconst (v := 0) C dX8_addStreet_17 (by decide) ?_
    obtain ⟨rfl, rfl⟩ := Prod.mk.inj (Option.some.inj h)
    exact q_iret C hr (Nat.le_refl 0) (Nat.le_refl 0) dX8_addStreet_18
/-! ClosedStreetsModel.removeStreet -/
abbrev rmX8_removeStreet : Room := { frames := 3, cells := 0, slots := 0, locals := 120 }
def B8_removeStreet_17 (n : Nat) (v1 : Int32) (t1 : Int32) (S : qSt) : Option (Int32 × qSt) := ob2 (F8_refused t1 S) fun r4 S5 => if r4 = 0 then (ob1 (F8_remember n S5) fun S7 => ob1 (F8_tearDown n 114 v1 S7) fun S9 => ob2 (F8_bestBut n 114 (-999) S9) fun r11 S12 => some (r11, S12)) else (some (0, S5))
set_option maxRecDepth 100000 in
set_option maxHeartbeats 4000000 in
theorem W8_removeStreet_17 {r : Int32} {S2 : qSt} (C : qC g cX8_removeStreet RX8 2 p s m meth c) (hr : meth.sig.returnType = (some .int)) (n : Nat) (v1 : Int32) (t1 : Int32) (S : qSt) (h : B8_removeStreet_17 n v1 t1 S = some (r, S2)) : qR g NL qT 2 p l e rmX8_removeStreet s m args below meth c 0 0 (MQ below (qQi g NL qT (qmem g S2) r) args s 0 0 (qA g)) (qmem g S) 17 [(0, .ref (qa g 111)), (1, .int v1)] [.int t1, .ref (qa g 111)] := by
  unfold B8_removeStreet_17 at h
  obtain ⟨r4, S5, hc3, h⟩ := ob2_e h
  refine q_callVi0 C ltp_111 (qmem_o kd_111 (Nat.le_of_ble_eq_true rfl)) rfl rfl (kX8_refused t1 S hc3) lm8_103 rfl (rest := []) rfl (Nat.le_of_ble_eq_true rfl) dX8_removeStreet_17 ⟨rfl, rfl, Nat.le_of_ble_eq_true rfl, Nat.le_of_ble_eq_true rfl, Nat.le_of_ble_eq_true rfl, Nat.le_of_ble_eq_true rfl⟩ ?_
  refine q_if_eq (tgt := 25) C h dX8_removeStreet_20 (by decide) (fun h => ?_) (fun h => ?_)
  · refine q_aload_n C 0 dX8_removeStreet_25 rfl rfl ?_
    obtain ⟨S7, hc6, h⟩ := ob1_e h
    refine q_callVv0 C ltp_111 (qmem_o kd_111 (Nat.le_of_ble_eq_true rfl)) rfl rfl (kX8_remember n S5 hc6) lm8_190 rfl (rest := []) rfl (Nat.le_of_ble_eq_true rfl) dX8_removeStreet_26 ⟨rfl, rfl, Nat.le_of_ble_eq_true rfl, Nat.le_of_ble_eq_true rfl, Nat.le_of_ble_eq_true rfl, Nat.le_of_ble_eq_true rfl⟩ ?_
    refine q_aload_n C 0 dX8_removeStreet_29 rfl rfl ?_
    refine s_getr (a := 114) C lf8_16 ltp_111 kd_111 rfl dX8_removeStreet_30 ?_
    refine q_iload_n C 1 dX8_removeStreet_33 rfl rfl ?_
    obtain ⟨S9, hc8, h⟩ := ob1_e h
    refine q_callSv0 C (kX8_tearDown n 114 (tyI_114) v1 S7 hc8) lm8_198 rfl (rest := []) rfl (Nat.le_of_ble_eq_true rfl) dX8_removeStreet_34 ⟨rfl, rfl, Nat.le_of_ble_eq_true rfl, Nat.le_of_ble_eq_true rfl, Nat.le_of_ble_eq_true rfl, Nat.le_of_ble_eq_true rfl⟩ ?_
    refine q_aload_n C 0 dX8_removeStreet_37 rfl rfl ?_
    refine q_aload_n C 0 dX8_removeStreet_38 rfl rfl ?_
    refine s_getr (a := 114) C lf8_16 ltp_111 kd_111 rfl dX8_removeStreet_39 ?_
    refine q_sipush (v := (-999)) C dX8_removeStreet_42 (by decide) ?_
    obtain ⟨r11, S12, hc10, h⟩ := ob2_e h
    refine q_callVi0 C ltp_111 (qmem_o kd_111 (Nat.le_of_ble_eq_true rfl)) rfl rfl (kX8_bestBut n 114 (tyI_114) (-999) S9 hc10) lm8_88 rfl (rest := []) rfl (Nat.le_of_ble_eq_true rfl) dX8_removeStreet_45 ⟨rfl, rfl, Nat.le_of_ble_eq_true rfl, Nat.le_of_ble_eq_true rfl, Nat.le_of_ble_eq_true rfl, Nat.le_of_ble_eq_true rfl⟩ ?_
    obtain ⟨rfl, rfl⟩ := Prod.mk.inj (Option.some.inj h)
    exact q_iret C hr (Nat.le_refl 0) (Nat.le_refl 0) dX8_removeStreet_48
  · refine q_iconst (v := 0) C dX8_removeStreet_23 (by decide) ?_
    obtain ⟨rfl, rfl⟩ := Prod.mk.inj (Option.some.inj h)
    exact q_iret C hr (Nat.le_refl 0) (Nat.le_refl 0) dX8_removeStreet_24
def F8_removeStreet (n : Nat) (v1 : Int32) (S : qSt) : Option (Int32 × qSt) := ob1 (F8_isStreet 114 v1 S) fun r2 => if r2 = 0 then (B8_removeStreet_17 n v1 1 S) else (B8_removeStreet_17 n v1 0 S)
set_option maxRecDepth 100000 in
set_option maxHeartbeats 4000000 in
theorem kX8_removeStreet {l : Launch} {g : qG} (n : Nat) (v1 : Int32) (S : qSt) {r : Int32} {S2 : qSt} (h : F8_removeStreet n v1 S = some (r, S2)) : Met l yX8_removeStreet [.code yX8_removeStreet cX8_removeStreet 2 (some .int)] rmX8_removeStreet (qPc g NL qT (qmem g S) [.ref (qa g 111), .int v1]) (qQi g NL qT (qmem g S2) r) 0 0 (qA g) := by
  refine q_met (by decide) (Nat.le_of_ble_eq_true rfl) (fun p e s m args below meth c C hr _ => ?_)
  have C : qC g cX8_removeStreet RX8 2 p s m meth c := C
  show qR g NL qT 2 p l e rmX8_removeStreet s m args below meth c 0 0 (MQ below (qQi g NL qT (qmem g S2) r) args s 0 0 (qA g)) (qmem g S) 0 [(0, .ref (qa g 111)), (1, .int v1)] []
  unfold F8_removeStreet at h
  refine q_aload_n C 0 dX8_removeStreet_0 rfl rfl ?_
  refine q_aload_n C 0 dX8_removeStreet_1 rfl rfl ?_
  refine s_getr (a := 114) C lf8_16 ltp_111 kd_111 rfl dX8_removeStreet_2 ?_
  refine q_iload_n C 1 dX8_removeStreet_5 rfl rfl ?_
  obtain ⟨r2, hc1, h⟩ := ob1_e h
  refine q_callSi0 C (kX8_isStreet 114 (tyI_114) v1 S hc1) lm8_173 rfl (rest := [.ref (qa g 111)]) rfl (Nat.le_of_ble_eq_true rfl) dX8_removeStreet_6 ⟨rfl, rfl, Nat.le_of_ble_eq_true rfl, Nat.le_of_ble_eq_true rfl, Nat.le_of_ble_eq_true rfl, Nat.le_of_ble_eq_true rfl⟩ ?_
  refine q_if_eq (tgt := 16) C h dX8_removeStreet_9 (by decide) (fun h => ?_) (fun h => ?_)
  · refine q_iconst (v := 1) C dX8_removeStreet_16 (by decide) ?_
    exact W8_removeStreet_17 C hr n v1 1 S h
  · refine q_iconst (v := 0) C dX8_removeStreet_12 (by decide) ?_
    refine q_goto (tgt := 17) C dX8_removeStreet_13 (by decide) ?_
    exact W8_removeStreet_17 C hr n v1 0 S h
/-! ClosedStreetsModel.setLength -/
abbrev rmX8_setLength : Room := { frames := 2, cells := 0, slots := 0, locals := 80 }
def B8_setLength_33 (n : Nat) (v1 : Int32) (v2 : Int32) (t1 : Int32) (S : qSt) : Option (Int32 × qSt) := ob2 (F8_refused t1 S) fun r4 S5 => if r4 = 0 then (ob1 (F8_remember n S5) fun S7 => if qin (44 + v1) 84 = true then obs (qup S7 114 (44 + v1).toNatClampNeg v2) fun S9 => some (S7 114 (44 + v1).toNatClampNeg, S9) else none) else (some (0, S5))
set_option maxRecDepth 100000 in
set_option maxHeartbeats 4000000 in
theorem W8_setLength_33 {r : Int32} {S2 : qSt} (C : qC g cX8_setLength RX8 4 p s m meth c) (hr : meth.sig.returnType = (some .int)) (n : Nat) (v1 : Int32) (v2 : Int32) (t1 : Int32) (S : qSt) (h : B8_setLength_33 n v1 v2 t1 S = some (r, S2)) : qR g NL qT 4 p l e rmX8_setLength s m args below meth c 0 0 (MQ below (qQi g NL qT (qmem g S2) r) args s 0 0 (qA g)) (qmem g S) 33 [(0, .ref (qa g 111)), (1, .int v1), (2, .int v2)] [.int t1, .ref (qa g 111)] := by
  unfold B8_setLength_33 at h
  obtain ⟨r4, S5, hc3, h⟩ := ob2_e h
  refine q_callVi0 C ltp_111 (qmem_o kd_111 (Nat.le_of_ble_eq_true rfl)) rfl rfl (kX8_refused t1 S hc3) lm8_103 rfl (rest := []) rfl (Nat.le_of_ble_eq_true rfl) dX8_setLength_33 ⟨rfl, rfl, Nat.le_of_ble_eq_true rfl, Nat.le_of_ble_eq_true rfl, Nat.le_of_ble_eq_true rfl, Nat.le_of_ble_eq_true rfl⟩ ?_
  refine q_if_eq (tgt := 41) C h dX8_setLength_36 (by decide) (fun h => ?_) (fun h => ?_)
  · refine q_aload_n C 0 dX8_setLength_41 rfl rfl ?_
    obtain ⟨S7, hc6, h⟩ := ob1_e h
    refine q_callVv0 C ltp_111 (qmem_o kd_111 (Nat.le_of_ble_eq_true rfl)) rfl rfl (kX8_remember n S5 hc6) lm8_190 rfl (rest := []) rfl (Nat.le_of_ble_eq_true rfl) dX8_setLength_42 ⟨rfl, rfl, Nat.le_of_ble_eq_true rfl, Nat.le_of_ble_eq_true rfl, Nat.le_of_ble_eq_true rfl, Nat.le_of_ble_eq_true rfl⟩ ?_
    refine q_aload_n C 0 dX8_setLength_45 rfl rfl ?_
    refine s_getr (a := 114) C lf8_16 ltp_111 kd_111 rfl dX8_setLength_46 ?_
    refine q_bipush (v := 44) C dX8_setLength_49 (by decide) ?_
    refine q_iload_n C 1 dX8_setLength_51 rfl rfl ?_
    refine q_iadd C dX8_setLength_52 ?_
    obtain ⟨hb8, h⟩ := q_if h
    refine s_iald C ltp_114 kd_114 hb8 dX8_setLength_53 ?_
    refine q_istore_n C (lv' := [(3, .int (S7 114 (44 + v1).toNatClampNeg)), (0, .ref (qa g 111)), (1, .int v1), (2, .int v2)]) dX8_setLength_54 rfl (by decide) rfl ?_
    refine q_norm [1, 2, 3, 0] rfl ?_
    refine q_aload_n C 0 dX8_setLength_55 rfl rfl ?_
    refine s_getr (a := 114) C lf8_16 ltp_111 kd_111 rfl dX8_setLength_56 ?_
    refine q_bipush (v := 44) C dX8_setLength_59 (by decide) ?_
    refine q_iload_n C 1 dX8_setLength_61 rfl rfl ?_
    refine q_iadd C dX8_setLength_62 ?_
    refine q_iload_n C 2 dX8_setLength_63 rfl rfl ?_
    obtain ⟨S9, hS9, h⟩ := obs_e h
    refine s_iast C ltp_114 kd_114 hb8 dX8_setLength_64 ?_
    rw [← hS9]
    refine q_iload_n C 3 dX8_setLength_65 rfl rfl ?_
    obtain ⟨rfl, rfl⟩ := Prod.mk.inj (Option.some.inj h)
    exact q_iret C hr (Nat.le_refl 0) (Nat.le_refl 0) dX8_setLength_66
  · refine q_iconst (v := 0) C dX8_setLength_39 (by decide) ?_
    obtain ⟨rfl, rfl⟩ := Prod.mk.inj (Option.some.inj h)
    exact q_iret C hr (Nat.le_refl 0) (Nat.le_refl 0) dX8_setLength_40
def F8_setLength (n : Nat) (v1 : Int32) (v2 : Int32) (S : qSt) : Option (Int32 × qSt) := ob1 (F8_isStreet 114 v1 S) fun r2 => if ¬ r2 = 0 then (if (F8_in v2.toInt64 1 99 S) = 0 then (B8_setLength_33 n v1 v2 2 S) else (B8_setLength_33 n v1 v2 0 S)) else (B8_setLength_33 n v1 v2 1 S)
set_option maxRecDepth 100000 in
set_option maxHeartbeats 4000000 in
theorem kX8_setLength {l : Launch} {g : qG} (n : Nat) (v1 : Int32) (v2 : Int32) (S : qSt) {r : Int32} {S2 : qSt} (h : F8_setLength n v1 v2 S = some (r, S2)) : Met l yX8_setLength [.code yX8_setLength cX8_setLength 4 (some .int)] rmX8_setLength (qPc g NL qT (qmem g S) [.ref (qa g 111), .int v1, .int v2]) (qQi g NL qT (qmem g S2) r) 0 0 (qA g) := by
  refine q_met (by decide) (Nat.le_of_ble_eq_true rfl) (fun p e s m args below meth c C hr _ => ?_)
  have C : qC g cX8_setLength RX8 4 p s m meth c := C
  show qR g NL qT 4 p l e rmX8_setLength s m args below meth c 0 0 (MQ below (qQi g NL qT (qmem g S2) r) args s 0 0 (qA g)) (qmem g S) 0 [(0, .ref (qa g 111)), (1, .int v1), (2, .int v2)] []
  unfold F8_setLength at h
  refine q_aload_n C 0 dX8_setLength_0 rfl rfl ?_
  refine q_aload_n C 0 dX8_setLength_1 rfl rfl ?_
  refine s_getr (a := 114) C lf8_16 ltp_111 kd_111 rfl dX8_setLength_2 ?_
  refine q_iload_n C 1 dX8_setLength_5 rfl rfl ?_
  obtain ⟨r2, hc1, h⟩ := ob1_e h
  refine q_callSi0 C (kX8_isStreet 114 (tyI_114) v1 S hc1) lm8_173 rfl (rest := [.ref (qa g 111)]) rfl (Nat.le_of_ble_eq_true rfl) dX8_setLength_6 ⟨rfl, rfl, Nat.le_of_ble_eq_true rfl, Nat.le_of_ble_eq_true rfl, Nat.le_of_ble_eq_true rfl, Nat.le_of_ble_eq_true rfl⟩ ?_
  refine q_if_ne (tgt := 16) C h dX8_setLength_9 (by decide) (fun h => ?_) (fun h => ?_)
  · refine q_iload_n C 2 dX8_setLength_16 rfl rfl ?_
    refine q_i2l C dX8_setLength_17 rfl ?_
    refine q_lconst (v := 1) C dX8_setLength_18 (by decide) ?_
    refine q_ldc2 (v := 99) C lc8_193 dX8_setLength_19 ?_
    refine q_callSi0 C (kX8_in v2.toInt64 1 99 S) lm8_65 rfl (rest := [.ref (qa g 111)]) rfl (Nat.le_of_ble_eq_true rfl) dX8_setLength_22 ⟨rfl, rfl, Nat.le_of_ble_eq_true rfl, Nat.le_of_ble_eq_true rfl, Nat.le_of_ble_eq_true rfl, Nat.le_of_ble_eq_true rfl⟩ ?_
    refine q_if_eq (tgt := 32) C h dX8_setLength_25 (by decide) (fun h => ?_) (fun h => ?_)
    · refine q_iconst (v := 2) C dX8_setLength_32 (by decide) ?_
      exact W8_setLength_33 C hr n v1 v2 2 S h
    · refine q_iconst (v := 0) C dX8_setLength_28 (by decide) ?_
      refine q_goto (tgt := 33) C dX8_setLength_29 (by decide) ?_
      exact W8_setLength_33 C hr n v1 v2 0 S h
  · refine q_iconst (v := 1) C dX8_setLength_12 (by decide) ?_
    refine q_goto (tgt := 33) C dX8_setLength_13 (by decide) ?_
    exact W8_setLength_33 C hr n v1 v2 1 S h
/-! ClosedStreetsModel.close -/
abbrev rmX8_close : Room := { frames := 3, cells := 0, slots := 0, locals := 120 }
def B8_close_46 (n : Nat) (t1 : Int32) (t2 : Int32) (S : qSt) : Option (Int32 × qSt) := if qin t1 84 = true then obs (qup S 114 t1.toNatClampNeg t2) fun S9 => ob2 (F8_bestBut n 114 (-999) S9) fun r11 S12 => some (r11, S12) else none
set_option maxRecDepth 100000 in
set_option maxHeartbeats 4000000 in
theorem W8_close_46 {r : Int32} {S2 : qSt} (C : qC g cX8_close RX8 3 p s m meth c) (hr : meth.sig.returnType = (some .int)) (n : Nat) (t1 : Int32) (t2 : Int32) (S : qSt) (h : B8_close_46 n t1 t2 S = some (r, S2)) : qR g NL qT 3 p l e rmX8_close s m args below meth c 0 0 (MQ below (qQi g NL qT (qmem g S2) r) args s 0 0 (qA g)) (qmem g S) 46 [(0, .ref (qa g 111))] [.int t2, .int t1, .ref (qa g 114)] := by
  unfold B8_close_46 at h
  obtain ⟨hb8, h⟩ := q_if h
  obtain ⟨S9, hS9, h⟩ := obs_e h
  refine s_iast C ltp_114 kd_114 hb8 dX8_close_46 ?_
  rw [← hS9]
  refine q_aload_n C 0 dX8_close_47 rfl rfl ?_
  refine q_aload_n C 0 dX8_close_48 rfl rfl ?_
  refine s_getr (a := 114) C lf8_16 ltp_111 kd_111 rfl dX8_close_49 ?_
  refine q_sipush (v := (-999)) C dX8_close_52 (by decide) ?_
  obtain ⟨r11, S12, hc10, h⟩ := ob2_e h
  refine q_callVi0 C ltp_111 (qmem_o kd_111 (Nat.le_of_ble_eq_true rfl)) rfl rfl (kX8_bestBut n 114 (tyI_114) (-999) S9 hc10) lm8_88 rfl (rest := []) rfl (Nat.le_of_ble_eq_true rfl) dX8_close_55 ⟨rfl, rfl, Nat.le_of_ble_eq_true rfl, Nat.le_of_ble_eq_true rfl, Nat.le_of_ble_eq_true rfl, Nat.le_of_ble_eq_true rfl⟩ ?_
  obtain ⟨rfl, rfl⟩ := Prod.mk.inj (Option.some.inj h)
  exact q_iret C hr (Nat.le_refl 0) (Nat.le_refl 0) dX8_close_58
def B8_close_17 (n : Nat) (v1 : Int32) (v2 : Int32) (t1 : Int32) (S : qSt) : Option (Int32 × qSt) := ob2 (F8_refused t1 S) fun r4 S5 => if r4 = 0 then (ob1 (F8_remember n S5) fun S7 => if v2 = 0 then (B8_close_46 n (64 + v1) 0 S7) else (B8_close_46 n (64 + v1) 1 S7)) else (some (0, S5))
set_option maxRecDepth 100000 in
set_option maxHeartbeats 4000000 in
theorem W8_close_17 {r : Int32} {S2 : qSt} (C : qC g cX8_close RX8 3 p s m meth c) (hr : meth.sig.returnType = (some .int)) (n : Nat) (v1 : Int32) (v2 : Int32) (t1 : Int32) (S : qSt) (h : B8_close_17 n v1 v2 t1 S = some (r, S2)) : qR g NL qT 3 p l e rmX8_close s m args below meth c 0 0 (MQ below (qQi g NL qT (qmem g S2) r) args s 0 0 (qA g)) (qmem g S) 17 [(0, .ref (qa g 111)), (1, .int v1), (2, .int v2)] [.int t1, .ref (qa g 111)] := by
  unfold B8_close_17 at h
  obtain ⟨r4, S5, hc3, h⟩ := ob2_e h
  refine q_callVi0 C ltp_111 (qmem_o kd_111 (Nat.le_of_ble_eq_true rfl)) rfl rfl (kX8_refused t1 S hc3) lm8_103 rfl (rest := []) rfl (Nat.le_of_ble_eq_true rfl) dX8_close_17 ⟨rfl, rfl, Nat.le_of_ble_eq_true rfl, Nat.le_of_ble_eq_true rfl, Nat.le_of_ble_eq_true rfl, Nat.le_of_ble_eq_true rfl⟩ ?_
  refine q_if_eq (tgt := 25) C h dX8_close_20 (by decide) (fun h => ?_) (fun h => ?_)
  · refine q_aload_n C 0 dX8_close_25 rfl rfl ?_
    obtain ⟨S7, hc6, h⟩ := ob1_e h
    refine q_callVv0 C ltp_111 (qmem_o kd_111 (Nat.le_of_ble_eq_true rfl)) rfl rfl (kX8_remember n S5 hc6) lm8_190 rfl (rest := []) rfl (Nat.le_of_ble_eq_true rfl) dX8_close_26 ⟨rfl, rfl, Nat.le_of_ble_eq_true rfl, Nat.le_of_ble_eq_true rfl, Nat.le_of_ble_eq_true rfl, Nat.le_of_ble_eq_true rfl⟩ ?_
    refine q_aload_n C 0 dX8_close_29 rfl rfl ?_
    refine s_getr (a := 114) C lf8_16 ltp_111 kd_111 rfl dX8_close_30 ?_
    refine q_bipush (v := 64) C dX8_close_33 (by decide) ?_
    refine q_iload_n C 1 dX8_close_35 rfl rfl ?_
    refine q_iadd C dX8_close_36 ?_
    refine q_iload_n C 2 dX8_close_37 rfl rfl ?_
    refine q_if_eq (tgt := 45) C h dX8_close_38 (by decide) (fun h => ?_) (fun h => ?_)
    · refine q_iconst (v := 0) C dX8_close_45 (by decide) ?_
      refine q_norm [0] rfl ?_
      exact W8_close_46 C hr n (64 + v1) 0 S7 h
    · refine q_iconst (v := 1) C dX8_close_41 (by decide) ?_
      refine q_goto (tgt := 46) C dX8_close_42 (by decide) ?_
      refine q_norm [0] rfl ?_
      exact W8_close_46 C hr n (64 + v1) 1 S7 h
  · refine q_iconst (v := 0) C dX8_close_23 (by decide) ?_
    obtain ⟨rfl, rfl⟩ := Prod.mk.inj (Option.some.inj h)
    exact q_iret C hr (Nat.le_refl 0) (Nat.le_refl 0) dX8_close_24
def F8_close (n : Nat) (v1 : Int32) (v2 : Int32) (S : qSt) : Option (Int32 × qSt) := ob1 (F8_isStreet 114 v1 S) fun r2 => if r2 = 0 then (B8_close_17 n v1 v2 1 S) else (B8_close_17 n v1 v2 0 S)
set_option maxRecDepth 100000 in
set_option maxHeartbeats 4000000 in
theorem kX8_close {l : Launch} {g : qG} (n : Nat) (v1 : Int32) (v2 : Int32) (S : qSt) {r : Int32} {S2 : qSt} (h : F8_close n v1 v2 S = some (r, S2)) : Met l yX8_close [.code yX8_close cX8_close 3 (some .int)] rmX8_close (qPc g NL qT (qmem g S) [.ref (qa g 111), .int v1, .int v2]) (qQi g NL qT (qmem g S2) r) 0 0 (qA g) := by
  refine q_met (by decide) (Nat.le_of_ble_eq_true rfl) (fun p e s m args below meth c C hr _ => ?_)
  have C : qC g cX8_close RX8 3 p s m meth c := C
  show qR g NL qT 3 p l e rmX8_close s m args below meth c 0 0 (MQ below (qQi g NL qT (qmem g S2) r) args s 0 0 (qA g)) (qmem g S) 0 [(0, .ref (qa g 111)), (1, .int v1), (2, .int v2)] []
  unfold F8_close at h
  refine q_aload_n C 0 dX8_close_0 rfl rfl ?_
  refine q_aload_n C 0 dX8_close_1 rfl rfl ?_
  refine s_getr (a := 114) C lf8_16 ltp_111 kd_111 rfl dX8_close_2 ?_
  refine q_iload_n C 1 dX8_close_5 rfl rfl ?_
  obtain ⟨r2, hc1, h⟩ := ob1_e h
  refine q_callSi0 C (kX8_isStreet 114 (tyI_114) v1 S hc1) lm8_173 rfl (rest := [.ref (qa g 111)]) rfl (Nat.le_of_ble_eq_true rfl) dX8_close_6 ⟨rfl, rfl, Nat.le_of_ble_eq_true rfl, Nat.le_of_ble_eq_true rfl, Nat.le_of_ble_eq_true rfl, Nat.le_of_ble_eq_true rfl⟩ ?_
  refine q_if_eq (tgt := 16) C h dX8_close_9 (by decide) (fun h => ?_) (fun h => ?_)
  · refine q_iconst (v := 1) C dX8_close_16 (by decide) ?_
    exact W8_close_17 C hr n v1 v2 1 S h
  · refine q_iconst (v := 0) C dX8_close_12 (by decide) ?_
    refine q_goto (tgt := 17) C dX8_close_13 (by decide) ?_
    exact W8_close_17 C hr n v1 v2 0 S h
/-! ClosedStreetsModel.setEnds -/
abbrev rmX8_setEnds : Room := { frames := 3, cells := 0, slots := 0, locals := 120 }
def B8_setEnds_37 (n : Nat) (v1 : Int32) (v2 : Int32) (t1 : Int32) (S : qSt) : Option (Int32 × qSt) := ob2 (F8_refused t1 S) fun r4 S5 => if r4 = 0 then (ob1 (F8_remember n S5) fun S7 => obs (qup S7 114 (2 : Int32).toNatClampNeg v1) fun S8 => obs (qup S8 114 (3 : Int32).toNatClampNeg v2) fun S9 => ob2 (F8_bestBut n 114 (-999) S9) fun r11 S12 => some (r11, S12)) else (some (0, S5))
set_option maxRecDepth 100000 in
set_option maxHeartbeats 4000000 in
theorem W8_setEnds_37 {r : Int32} {S2 : qSt} (C : qC g cX8_setEnds RX8 3 p s m meth c) (hr : meth.sig.returnType = (some .int)) (n : Nat) (v1 : Int32) (v2 : Int32) (t1 : Int32) (S : qSt) (h : B8_setEnds_37 n v1 v2 t1 S = some (r, S2)) : qR g NL qT 3 p l e rmX8_setEnds s m args below meth c 0 0 (MQ below (qQi g NL qT (qmem g S2) r) args s 0 0 (qA g)) (qmem g S) 37 [(0, .ref (qa g 111)), (1, .int v1), (2, .int v2)] [.int t1, .ref (qa g 111)] := by
  unfold B8_setEnds_37 at h
  obtain ⟨r4, S5, hc3, h⟩ := ob2_e h
  refine q_callVi0 C ltp_111 (qmem_o kd_111 (Nat.le_of_ble_eq_true rfl)) rfl rfl (kX8_refused t1 S hc3) lm8_103 rfl (rest := []) rfl (Nat.le_of_ble_eq_true rfl) dX8_setEnds_37 ⟨rfl, rfl, Nat.le_of_ble_eq_true rfl, Nat.le_of_ble_eq_true rfl, Nat.le_of_ble_eq_true rfl, Nat.le_of_ble_eq_true rfl⟩ ?_
  refine q_if_eq (tgt := 45) C h dX8_setEnds_40 (by decide) (fun h => ?_) (fun h => ?_)
  · refine q_aload_n C 0 dX8_setEnds_45 rfl rfl ?_
    obtain ⟨S7, hc6, h⟩ := ob1_e h
    refine q_callVv0 C ltp_111 (qmem_o kd_111 (Nat.le_of_ble_eq_true rfl)) rfl rfl (kX8_remember n S5 hc6) lm8_190 rfl (rest := []) rfl (Nat.le_of_ble_eq_true rfl) dX8_setEnds_46 ⟨rfl, rfl, Nat.le_of_ble_eq_true rfl, Nat.le_of_ble_eq_true rfl, Nat.le_of_ble_eq_true rfl, Nat.le_of_ble_eq_true rfl⟩ ?_
    refine q_aload_n C 0 dX8_setEnds_49 rfl rfl ?_
    refine s_getr (a := 114) C lf8_16 ltp_111 kd_111 rfl dX8_setEnds_50 ?_
    refine q_iconst (v := 2) C dX8_setEnds_53 (by decide) ?_
    refine q_iload_n C 1 dX8_setEnds_54 rfl rfl ?_
    obtain ⟨S8, hS8, h⟩ := obs_e h
    refine s_iast C ltp_114 kd_114 (by decide) dX8_setEnds_55 ?_
    rw [← hS8]
    refine q_aload_n C 0 dX8_setEnds_56 rfl rfl ?_
    refine s_getr (a := 114) C lf8_16 ltp_111 kd_111 rfl dX8_setEnds_57 ?_
    refine q_iconst (v := 3) C dX8_setEnds_60 (by decide) ?_
    refine q_iload_n C 2 dX8_setEnds_61 rfl rfl ?_
    obtain ⟨S9, hS9, h⟩ := obs_e h
    refine s_iast C ltp_114 kd_114 (by decide) dX8_setEnds_62 ?_
    rw [← hS9]
    refine q_aload_n C 0 dX8_setEnds_63 rfl rfl ?_
    refine q_aload_n C 0 dX8_setEnds_64 rfl rfl ?_
    refine s_getr (a := 114) C lf8_16 ltp_111 kd_111 rfl dX8_setEnds_65 ?_
    refine q_sipush (v := (-999)) C dX8_setEnds_68 (by decide) ?_
    obtain ⟨r11, S12, hc10, h⟩ := ob2_e h
    refine q_callVi0 C ltp_111 (qmem_o kd_111 (Nat.le_of_ble_eq_true rfl)) rfl rfl (kX8_bestBut n 114 (tyI_114) (-999) S9 hc10) lm8_88 rfl (rest := []) rfl (Nat.le_of_ble_eq_true rfl) dX8_setEnds_71 ⟨rfl, rfl, Nat.le_of_ble_eq_true rfl, Nat.le_of_ble_eq_true rfl, Nat.le_of_ble_eq_true rfl, Nat.le_of_ble_eq_true rfl⟩ ?_
    obtain ⟨rfl, rfl⟩ := Prod.mk.inj (Option.some.inj h)
    exact q_iret C hr (Nat.le_refl 0) (Nat.le_refl 0) dX8_setEnds_74
  · refine q_iconst (v := 0) C dX8_setEnds_43 (by decide) ?_
    obtain ⟨rfl, rfl⟩ := Prod.mk.inj (Option.some.inj h)
    exact q_iret C hr (Nat.le_refl 0) (Nat.le_refl 0) dX8_setEnds_44
def B8_setEnds_23 (n : Nat) (v1 : Int32) (v2 : Int32) (S : qSt) : Option (Int32 × qSt) := B8_setEnds_37 n v1 v2 1 S
set_option maxRecDepth 100000 in
set_option maxHeartbeats 4000000 in
theorem W8_setEnds_23 {r : Int32} {S2 : qSt} (C : qC g cX8_setEnds RX8 3 p s m meth c) (hr : meth.sig.returnType = (some .int)) (n : Nat) (v1 : Int32) (v2 : Int32) (S : qSt) (h : B8_setEnds_23 n v1 v2 S = some (r, S2)) : qR g NL qT 3 p l e rmX8_setEnds s m args below meth c 0 0 (MQ below (qQi g NL qT (qmem g S2) r) args s 0 0 (qA g)) (qmem g S) 23 [(0, .ref (qa g 111)), (1, .int v1), (2, .int v2)] [.ref (qa g 111)] := by
  unfold B8_setEnds_23 at h
  refine q_iconst (v := 1) C dX8_setEnds_23 (by decide) ?_
  refine q_goto (tgt := 37) C dX8_setEnds_24 (by decide) ?_
  exact W8_setEnds_37 C hr n v1 v2 1 S h
def F8_setEnds (n : Nat) (v1 : Int32) (v2 : Int32) (S : qSt) : Option (Int32 × qSt) := ob1 (F8_isCrossing 114 v1 S) fun r2 => if r2 = 0 then (B8_setEnds_23 n v1 v2 S) else (ob1 (F8_isCrossing 114 v2 S) fun r14 => if ¬ r14 = 0 then (if ¬ v1 = v2 then (B8_setEnds_37 n v1 v2 0 S) else (B8_setEnds_37 n v1 v2 2 S)) else (B8_setEnds_23 n v1 v2 S))
set_option maxRecDepth 100000 in
set_option maxHeartbeats 4000000 in
theorem kX8_setEnds {l : Launch} {g : qG} (n : Nat) (v1 : Int32) (v2 : Int32) (S : qSt) {r : Int32} {S2 : qSt} (h : F8_setEnds n v1 v2 S = some (r, S2)) : Met l yX8_setEnds [.code yX8_setEnds cX8_setEnds 3 (some .int)] rmX8_setEnds (qPc g NL qT (qmem g S) [.ref (qa g 111), .int v1, .int v2]) (qQi g NL qT (qmem g S2) r) 0 0 (qA g) := by
  refine q_met (by decide) (Nat.le_of_ble_eq_true rfl) (fun p e s m args below meth c C hr _ => ?_)
  have C : qC g cX8_setEnds RX8 3 p s m meth c := C
  show qR g NL qT 3 p l e rmX8_setEnds s m args below meth c 0 0 (MQ below (qQi g NL qT (qmem g S2) r) args s 0 0 (qA g)) (qmem g S) 0 [(0, .ref (qa g 111)), (1, .int v1), (2, .int v2)] []
  unfold F8_setEnds at h
  refine q_aload_n C 0 dX8_setEnds_0 rfl rfl ?_
  refine q_aload_n C 0 dX8_setEnds_1 rfl rfl ?_
  refine s_getr (a := 114) C lf8_16 ltp_111 kd_111 rfl dX8_setEnds_2 ?_
  refine q_iload_n C 1 dX8_setEnds_5 rfl rfl ?_
  obtain ⟨r2, hc1, h⟩ := ob1_e h
  refine q_callSi0 C (kX8_isCrossing 114 (tyI_114) v1 S hc1) lm8_182 rfl (rest := [.ref (qa g 111)]) rfl (Nat.le_of_ble_eq_true rfl) dX8_setEnds_6 ⟨rfl, rfl, Nat.le_of_ble_eq_true rfl, Nat.le_of_ble_eq_true rfl, Nat.le_of_ble_eq_true rfl, Nat.le_of_ble_eq_true rfl⟩ ?_
  refine q_if_eq (tgt := 23) C h dX8_setEnds_9 (by decide) (fun h => ?_) (fun h => ?_)
  · exact W8_setEnds_23 C hr n v1 v2 S h
  · refine q_aload_n C 0 dX8_setEnds_12 rfl rfl ?_
    refine s_getr (a := 114) C lf8_16 ltp_111 kd_111 rfl dX8_setEnds_13 ?_
    refine q_iload_n C 2 dX8_setEnds_16 rfl rfl ?_
    obtain ⟨r14, hc13, h⟩ := ob1_e h
    refine q_callSi0 C (kX8_isCrossing 114 (tyI_114) v2 S hc13) lm8_182 rfl (rest := [.ref (qa g 111)]) rfl (Nat.le_of_ble_eq_true rfl) dX8_setEnds_17 ⟨rfl, rfl, Nat.le_of_ble_eq_true rfl, Nat.le_of_ble_eq_true rfl, Nat.le_of_ble_eq_true rfl, Nat.le_of_ble_eq_true rfl⟩ ?_
    refine q_if_ne (tgt := 27) C h dX8_setEnds_20 (by decide) (fun h => ?_) (fun h => ?_)
    · refine q_iload_n C 1 dX8_setEnds_27 rfl rfl ?_
      refine q_iload_n C 2 dX8_setEnds_28 rfl rfl ?_
      refine q_icmp_ne (tgt := 36) C h dX8_setEnds_29 (by decide) (fun h => ?_) (fun h => ?_)
      · refine q_iconst (v := 0) C dX8_setEnds_36 (by decide) ?_
        exact W8_setEnds_37 C hr n v1 v2 0 S h
      · refine q_iconst (v := 2) C dX8_setEnds_32 (by decide) ?_
        refine q_goto (tgt := 37) C dX8_setEnds_33 (by decide) ?_
        exact W8_setEnds_37 C hr n v1 v2 2 S h
    · exact W8_setEnds_23 C hr n v1 v2 S h
/-! ClosedStreetsModel.command -/
abbrev rmX8_command : Room := { frames := 2, cells := 0, slots := 0, locals := 80 }
def F8_command (S : qSt) : Option (Int32 × qSt) := obs (S 114 (2 : Int32).toNatClampNeg) fun x1 => if (S 111 16) = 0 then (ob1 (F8_isStreet 114 (S 111 17) S) fun r9 => if ¬ r9 = 0 then (if qin (64 + (S 111 17)) 84 = true then obs (qup S 114 (64 + (S 111 17)).toNatClampNeg (S 111 16)) fun S11 => some (1, S11) else none) else (some (0, S))) else if (S 111 16) = 1 then (ob1 (F8_isStreet 114 (S 111 17) S) fun r13 => if ¬ r13 = 0 then (if qin (64 + (S 111 17)) 84 = true then obs (qup S 114 (64 + (S 111 17)).toNatClampNeg (S 111 16)) fun S15 => some (1, S15) else none) else (some (0, S))) else if (S 111 16) = 2 then (ob1 (F8_isStreet 114 (S 111 17) S) fun r17 => if r17 = 0 then (some (0, S)) else (if ¬ (F8_in ((S 111 18).toInt64) 1 99 S) = 0 then (if qin (44 + (S 111 17)) 84 = true then obs (qup S 114 (44 + (S 111 17)).toNatClampNeg (S 111 18)) fun S19 => some (1, S19) else none) else (some (0, S)))) else if (S 111 16) = 3 then (ob1 (F8_isCrossing 114 (S 111 17) S) fun r21 => if r21 = 0 then (some (0, S)) else (ob1 (F8_isCrossing 114 (S 111 18) S) fun r23 => if r23 = 0 then (some (0, S)) else (if ¬ (S 111 17) = (S 111 18) then (obs (qup S 114 (2 : Int32).toNatClampNeg (S 111 17)) fun S24 => obs (qup S24 114 (3 : Int32).toNatClampNeg (S24 111 18)) fun S25 => some (1, S25)) else (some (0, S))))) else (obs (qup S 114 (2 : Int32).toNatClampNeg (S 114 (3 : Int32).toNatClampNeg)) fun S6 => obs (qup S6 114 (3 : Int32).toNatClampNeg x1) fun S7 => some (1, S7))
set_option maxRecDepth 100000 in
set_option maxHeartbeats 4000000 in
theorem kX8_command {l : Launch} {g : qG} (S : qSt) {r : Int32} {S2 : qSt} (h : F8_command S = some (r, S2)) : Met l yX8_command [.code yX8_command cX8_command 2 (some .boolean)] rmX8_command (qPc g NL qT (qmem g S) [.ref (qa g 111)]) (qQi g NL qT (qmem g S2) r) 0 0 (qA g) := by
  refine q_met (by decide) (Nat.le_of_ble_eq_true rfl) (fun p e s m args below meth c C hr _ => ?_)
  have C : qC g cX8_command RX8 2 p s m meth c := C
  show qR g NL qT 2 p l e rmX8_command s m args below meth c 0 0 (MQ below (qQi g NL qT (qmem g S2) r) args s 0 0 (qA g)) (qmem g S) 0 [(0, .ref (qa g 111))] []
  unfold F8_command at h
  refine q_aload_n C 0 dX8_command_0 rfl rfl ?_
  refine s_getr (a := 114) C lf8_16 ltp_111 kd_111 rfl dX8_command_1 ?_
  refine q_iconst (v := 2) C dX8_command_4 (by decide) ?_
  refine s_iald C ltp_114 kd_114 (by decide) dX8_command_5 ?_
  obtain ⟨x1, hx1, h⟩ := obs_e h
  rw [← hx1]
  refine q_istore_n C (lv' := [(1, .int x1), (0, .ref (qa g 111))]) dX8_command_6 rfl (by decide) rfl ?_
  refine q_norm [1, 0] rfl ?_
  refine q_aload_n C 0 dX8_command_7 rfl rfl ?_
  refine s_geti C lf8_130 ltp_111 kd_111 dX8_command_8 ?_
  rcases q_ite h with ⟨q2, h⟩ | ⟨q2, h⟩
  · refine q_tableIn (off := 29) (tgt := 40) C dX8_command_11 (by rw [q2]; decide) (by rw [q2]; decide) (by rw [q2]; rfl) (by decide) ?_
    refine q_aload_n C 0 dX8_command_40 rfl rfl ?_
    refine s_getr (a := 114) C lf8_16 ltp_111 kd_111 rfl dX8_command_41 ?_
    refine q_aload_n C 0 dX8_command_44 rfl rfl ?_
    refine s_geti C lf8_143 ltp_111 kd_111 dX8_command_45 ?_
    obtain ⟨r9, hc8, h⟩ := ob1_e h
    refine q_callSi0 C (kX8_isStreet 114 (tyI_114) (S 111 17) S hc8) lm8_173 rfl (rest := []) rfl (Nat.le_of_ble_eq_true rfl) dX8_command_48 ⟨rfl, rfl, Nat.le_of_ble_eq_true rfl, Nat.le_of_ble_eq_true rfl, Nat.le_of_ble_eq_true rfl, Nat.le_of_ble_eq_true rfl⟩ ?_
    refine q_if_ne (tgt := 56) C h dX8_command_51 (by decide) (fun h => ?_) (fun h => ?_)
    · refine q_aload_n C 0 dX8_command_56 rfl rfl ?_
      refine s_getr (a := 114) C lf8_16 ltp_111 kd_111 rfl dX8_command_57 ?_
      refine q_bipush (v := 64) C dX8_command_60 (by decide) ?_
      refine q_aload_n C 0 dX8_command_62 rfl rfl ?_
      refine s_geti C lf8_143 ltp_111 kd_111 dX8_command_63 ?_
      refine q_iadd C dX8_command_66 ?_
      refine q_aload_n C 0 dX8_command_67 rfl rfl ?_
      refine s_geti C lf8_130 ltp_111 kd_111 dX8_command_68 ?_
      obtain ⟨hb10, h⟩ := q_if h
      obtain ⟨S11, hS11, h⟩ := obs_e h
      refine s_iast C ltp_114 kd_114 hb10 dX8_command_71 ?_
      rw [← hS11]
      refine q_iconst (v := 1) C dX8_command_72 (by decide) ?_
      obtain ⟨rfl, rfl⟩ := Prod.mk.inj (Option.some.inj h)
      exact q_zret C hr (by decide) (Nat.le_refl 0) (Nat.le_refl 0) dX8_command_73
    · refine q_iconst (v := 0) C dX8_command_54 (by decide) ?_
      obtain ⟨rfl, rfl⟩ := Prod.mk.inj (Option.some.inj h)
      exact q_zret C hr (by decide) (Nat.le_refl 0) (Nat.le_refl 0) dX8_command_55
  rcases q_ite h with ⟨q3, h⟩ | ⟨q3, h⟩
  · refine q_tableIn (off := 29) (tgt := 40) C dX8_command_11 (by rw [q3]; decide) (by rw [q3]; decide) (by rw [q3]; rfl) (by decide) ?_
    refine q_aload_n C 0 dX8_command_40 rfl rfl ?_
    refine s_getr (a := 114) C lf8_16 ltp_111 kd_111 rfl dX8_command_41 ?_
    refine q_aload_n C 0 dX8_command_44 rfl rfl ?_
    refine s_geti C lf8_143 ltp_111 kd_111 dX8_command_45 ?_
    obtain ⟨r13, hc12, h⟩ := ob1_e h
    refine q_callSi0 C (kX8_isStreet 114 (tyI_114) (S 111 17) S hc12) lm8_173 rfl (rest := []) rfl (Nat.le_of_ble_eq_true rfl) dX8_command_48 ⟨rfl, rfl, Nat.le_of_ble_eq_true rfl, Nat.le_of_ble_eq_true rfl, Nat.le_of_ble_eq_true rfl, Nat.le_of_ble_eq_true rfl⟩ ?_
    refine q_if_ne (tgt := 56) C h dX8_command_51 (by decide) (fun h => ?_) (fun h => ?_)
    · refine q_aload_n C 0 dX8_command_56 rfl rfl ?_
      refine s_getr (a := 114) C lf8_16 ltp_111 kd_111 rfl dX8_command_57 ?_
      refine q_bipush (v := 64) C dX8_command_60 (by decide) ?_
      refine q_aload_n C 0 dX8_command_62 rfl rfl ?_
      refine s_geti C lf8_143 ltp_111 kd_111 dX8_command_63 ?_
      refine q_iadd C dX8_command_66 ?_
      refine q_aload_n C 0 dX8_command_67 rfl rfl ?_
      refine s_geti C lf8_130 ltp_111 kd_111 dX8_command_68 ?_
      obtain ⟨hb14, h⟩ := q_if h
      obtain ⟨S15, hS15, h⟩ := obs_e h
      refine s_iast C ltp_114 kd_114 hb14 dX8_command_71 ?_
      rw [← hS15]
      refine q_iconst (v := 1) C dX8_command_72 (by decide) ?_
      obtain ⟨rfl, rfl⟩ := Prod.mk.inj (Option.some.inj h)
      exact q_zret C hr (by decide) (Nat.le_refl 0) (Nat.le_refl 0) dX8_command_73
    · refine q_iconst (v := 0) C dX8_command_54 (by decide) ?_
      obtain ⟨rfl, rfl⟩ := Prod.mk.inj (Option.some.inj h)
      exact q_zret C hr (by decide) (Nat.le_refl 0) (Nat.le_refl 0) dX8_command_55
  rcases q_ite h with ⟨q4, h⟩ | ⟨q4, h⟩
  · refine q_tableIn (off := 63) (tgt := 74) C dX8_command_11 (by rw [q4]; decide) (by rw [q4]; decide) (by rw [q4]; rfl) (by decide) ?_
    refine q_aload_n C 0 dX8_command_74 rfl rfl ?_
    refine s_getr (a := 114) C lf8_16 ltp_111 kd_111 rfl dX8_command_75 ?_
    refine q_aload_n C 0 dX8_command_78 rfl rfl ?_
    refine s_geti C lf8_143 ltp_111 kd_111 dX8_command_79 ?_
    obtain ⟨r17, hc16, h⟩ := ob1_e h
    refine q_callSi0 C (kX8_isStreet 114 (tyI_114) (S 111 17) S hc16) lm8_173 rfl (rest := []) rfl (Nat.le_of_ble_eq_true rfl) dX8_command_82 ⟨rfl, rfl, Nat.le_of_ble_eq_true rfl, Nat.le_of_ble_eq_true rfl, Nat.le_of_ble_eq_true rfl, Nat.le_of_ble_eq_true rfl⟩ ?_
    refine q_if_eq (tgt := 103) C h dX8_command_85 (by decide) (fun h => ?_) (fun h => ?_)
    · refine q_iconst (v := 0) C dX8_command_103 (by decide) ?_
      obtain ⟨rfl, rfl⟩ := Prod.mk.inj (Option.some.inj h)
      exact q_zret C hr (by decide) (Nat.le_refl 0) (Nat.le_refl 0) dX8_command_104
    · refine q_aload_n C 0 dX8_command_88 rfl rfl ?_
      refine s_geti C lf8_146 ltp_111 kd_111 dX8_command_89 ?_
      refine q_i2l C dX8_command_92 rfl ?_
      refine q_lconst (v := 1) C dX8_command_93 (by decide) ?_
      refine q_ldc2 (v := 99) C lc8_193 dX8_command_94 ?_
      refine q_callSi0 C (kX8_in ((S 111 18).toInt64) 1 99 S) lm8_65 rfl (rest := []) rfl (Nat.le_of_ble_eq_true rfl) dX8_command_97 ⟨rfl, rfl, Nat.le_of_ble_eq_true rfl, Nat.le_of_ble_eq_true rfl, Nat.le_of_ble_eq_true rfl, Nat.le_of_ble_eq_true rfl⟩ ?_
      refine q_if_ne (tgt := 105) C h dX8_command_100 (by decide) (fun h => ?_) (fun h => ?_)
      · refine q_aload_n C 0 dX8_command_105 rfl rfl ?_
        refine s_getr (a := 114) C lf8_16 ltp_111 kd_111 rfl dX8_command_106 ?_
        refine q_bipush (v := 44) C dX8_command_109 (by decide) ?_
        refine q_aload_n C 0 dX8_command_111 rfl rfl ?_
        refine s_geti C lf8_143 ltp_111 kd_111 dX8_command_112 ?_
        refine q_iadd C dX8_command_115 ?_
        refine q_aload_n C 0 dX8_command_116 rfl rfl ?_
        refine s_geti C lf8_146 ltp_111 kd_111 dX8_command_117 ?_
        obtain ⟨hb18, h⟩ := q_if h
        obtain ⟨S19, hS19, h⟩ := obs_e h
        refine s_iast C ltp_114 kd_114 hb18 dX8_command_120 ?_
        rw [← hS19]
        refine q_iconst (v := 1) C dX8_command_121 (by decide) ?_
        obtain ⟨rfl, rfl⟩ := Prod.mk.inj (Option.some.inj h)
        exact q_zret C hr (by decide) (Nat.le_refl 0) (Nat.le_refl 0) dX8_command_122
      · refine q_iconst (v := 0) C dX8_command_103 (by decide) ?_
        obtain ⟨rfl, rfl⟩ := Prod.mk.inj (Option.some.inj h)
        exact q_zret C hr (by decide) (Nat.le_refl 0) (Nat.le_refl 0) dX8_command_104
  rcases q_ite h with ⟨q5, h⟩ | ⟨q5, h⟩
  · refine q_tableIn (off := 112) (tgt := 123) C dX8_command_11 (by rw [q5]; decide) (by rw [q5]; decide) (by rw [q5]; rfl) (by decide) ?_
    refine q_aload_n C 0 dX8_command_123 rfl rfl ?_
    refine s_getr (a := 114) C lf8_16 ltp_111 kd_111 rfl dX8_command_124 ?_
    refine q_aload_n C 0 dX8_command_127 rfl rfl ?_
    refine s_geti C lf8_143 ltp_111 kd_111 dX8_command_128 ?_
    obtain ⟨r21, hc20, h⟩ := ob1_e h
    refine q_callSi0 C (kX8_isCrossing 114 (tyI_114) (S 111 17) S hc20) lm8_182 rfl (rest := []) rfl (Nat.le_of_ble_eq_true rfl) dX8_command_131 ⟨rfl, rfl, Nat.le_of_ble_eq_true rfl, Nat.le_of_ble_eq_true rfl, Nat.le_of_ble_eq_true rfl, Nat.le_of_ble_eq_true rfl⟩ ?_
    refine q_if_eq (tgt := 162) C h dX8_command_134 (by decide) (fun h => ?_) (fun h => ?_)
    · refine q_iconst (v := 0) C dX8_command_162 (by decide) ?_
      obtain ⟨rfl, rfl⟩ := Prod.mk.inj (Option.some.inj h)
      exact q_zret C hr (by decide) (Nat.le_refl 0) (Nat.le_refl 0) dX8_command_163
    · refine q_aload_n C 0 dX8_command_137 rfl rfl ?_
      refine s_getr (a := 114) C lf8_16 ltp_111 kd_111 rfl dX8_command_138 ?_
      refine q_aload_n C 0 dX8_command_141 rfl rfl ?_
      refine s_geti C lf8_146 ltp_111 kd_111 dX8_command_142 ?_
      obtain ⟨r23, hc22, h⟩ := ob1_e h
      refine q_callSi0 C (kX8_isCrossing 114 (tyI_114) (S 111 18) S hc22) lm8_182 rfl (rest := []) rfl (Nat.le_of_ble_eq_true rfl) dX8_command_145 ⟨rfl, rfl, Nat.le_of_ble_eq_true rfl, Nat.le_of_ble_eq_true rfl, Nat.le_of_ble_eq_true rfl, Nat.le_of_ble_eq_true rfl⟩ ?_
      refine q_if_eq (tgt := 162) C h dX8_command_148 (by decide) (fun h => ?_) (fun h => ?_)
      · refine q_iconst (v := 0) C dX8_command_162 (by decide) ?_
        obtain ⟨rfl, rfl⟩ := Prod.mk.inj (Option.some.inj h)
        exact q_zret C hr (by decide) (Nat.le_refl 0) (Nat.le_refl 0) dX8_command_163
      · refine q_aload_n C 0 dX8_command_151 rfl rfl ?_
        refine s_geti C lf8_143 ltp_111 kd_111 dX8_command_152 ?_
        refine q_aload_n C 0 dX8_command_155 rfl rfl ?_
        refine s_geti C lf8_146 ltp_111 kd_111 dX8_command_156 ?_
        refine q_icmp_ne (tgt := 164) C h dX8_command_159 (by decide) (fun h => ?_) (fun h => ?_)
        · refine q_aload_n C 0 dX8_command_164 rfl rfl ?_
          refine s_getr (a := 114) C lf8_16 ltp_111 kd_111 rfl dX8_command_165 ?_
          refine q_iconst (v := 2) C dX8_command_168 (by decide) ?_
          refine q_aload_n C 0 dX8_command_169 rfl rfl ?_
          refine s_geti C lf8_143 ltp_111 kd_111 dX8_command_170 ?_
          obtain ⟨S24, hS24, h⟩ := obs_e h
          refine s_iast C ltp_114 kd_114 (by decide) dX8_command_173 ?_
          rw [← hS24]
          refine q_aload_n C 0 dX8_command_174 rfl rfl ?_
          refine s_getr (a := 114) C lf8_16 ltp_111 kd_111 rfl dX8_command_175 ?_
          refine q_iconst (v := 3) C dX8_command_178 (by decide) ?_
          refine q_aload_n C 0 dX8_command_179 rfl rfl ?_
          refine s_geti C lf8_146 ltp_111 kd_111 dX8_command_180 ?_
          obtain ⟨S25, hS25, h⟩ := obs_e h
          refine s_iast C ltp_114 kd_114 (by decide) dX8_command_183 ?_
          rw [← hS25]
          refine q_iconst (v := 1) C dX8_command_184 (by decide) ?_
          obtain ⟨rfl, rfl⟩ := Prod.mk.inj (Option.some.inj h)
          exact q_zret C hr (by decide) (Nat.le_refl 0) (Nat.le_refl 0) dX8_command_185
        · refine q_iconst (v := 0) C dX8_command_162 (by decide) ?_
          obtain ⟨rfl, rfl⟩ := Prod.mk.inj (Option.some.inj h)
          exact q_zret C hr (by decide) (Nat.le_refl 0) (Nat.le_refl 0) dX8_command_163
  refine q_tableOut (tgt := 186) C dX8_command_11 (by have q2 := q_ne (k := 0) (by decide) q2; have q3 := q_ne (k := 1) (by decide) q3; have q4 := q_ne (k := 2) (by decide) q4; have q5 := q_ne (k := 3) (by decide) q5; omega) (by decide) ?_
  refine q_aload_n C 0 dX8_command_186 rfl rfl ?_
  refine s_getr (a := 114) C lf8_16 ltp_111 kd_111 rfl dX8_command_187 ?_
  refine q_iconst (v := 2) C dX8_command_190 (by decide) ?_
  refine q_aload_n C 0 dX8_command_191 rfl rfl ?_
  refine s_getr (a := 114) C lf8_16 ltp_111 kd_111 rfl dX8_command_192 ?_
  refine q_iconst (v := 3) C dX8_command_195 (by decide) ?_
  refine s_iald C ltp_114 kd_114 (by decide) dX8_command_196 ?_
  obtain ⟨S6, hS6, h⟩ := obs_e h
  refine s_iast C ltp_114 kd_114 (by decide) dX8_command_197 ?_
  rw [← hS6]
  refine q_aload_n C 0 dX8_command_198 rfl rfl ?_
  refine s_getr (a := 114) C lf8_16 ltp_111 kd_111 rfl dX8_command_199 ?_
  refine q_iconst (v := 3) C dX8_command_202 (by decide) ?_
  refine q_iload_n C 1 dX8_command_203 rfl rfl ?_
  obtain ⟨S7, hS7, h⟩ := obs_e h
  refine s_iast C ltp_114 kd_114 (by decide) dX8_command_204 ?_
  rw [← hS7]
  refine q_iconst (v := 1) C dX8_command_205 (by decide) ?_
  obtain ⟨rfl, rfl⟩ := Prod.mk.inj (Option.some.inj h)
  exact q_zret C hr (by decide) (Nat.le_refl 0) (Nat.le_refl 0) dX8_command_206
/-! ClosedStreetsModel.runPlan -/
abbrev rmX8_runPlan : Room := { frames := 5, cells := 0, slots := 0, locals := 200 }
def B8_runPlan_97 (n : Nat) (K45 : Int32 → Int32 → qSt → Option (Int32 × qSt)) (v1 : Int32) (t0 : Int32) (S : qSt) : Option (Int32 × qSt) := K45 v1 t0 S
set_option maxRecDepth 100000 in
set_option maxHeartbeats 4000000 in
theorem W8_runPlan_97 {r : Int32} {S2 : qSt} (C : qC g cX8_runPlan RX8 3 p s m meth c) (hr : meth.sig.returnType = (some .int)) (n : Nat) (K45 : Int32 → Int32 → qSt → Option (Int32 × qSt)) (hK45 : ∀ (v1 : Int32) (v2 : Int32) (S : qSt), K45 v1 v2 S = some (r, S2) → qR g NL qT 3 p l e rmX8_runPlan s m args below meth c 0 0 (MQ below (qQi g NL qT (qmem g S2) r) args s 0 0 (qA g)) (qmem g S) 45 [(0, .ref (qa g 111)), (1, .int v1), (2, .int v2)] []) (v1 : Int32) (t0 : Int32) (S : qSt) (h : B8_runPlan_97 n K45 v1 t0 S = some (r, S2)) : qR g NL qT 3 p l e rmX8_runPlan s m args below meth c 0 0 (MQ below (qQi g NL qT (qmem g S2) r) args s 0 0 (qA g)) (qmem g S) 97 [(0, .ref (qa g 111)), (1, .int v1)] [.int t0] := by
  unfold B8_runPlan_97 at h
  refine q_istore_n C (lv' := [(2, .int t0), (0, .ref (qa g 111)), (1, .int v1)]) dX8_runPlan_97 rfl (by decide) rfl ?_
  refine q_norm [1, 2, 0] rfl ?_
  refine q_goto (tgt := 45) C dX8_runPlan_98 (by decide) ?_
  exact hK45 v1 t0 S h
def B8_runPlan_96 (n : Nat) (K45 : Int32 → Int32 → qSt → Option (Int32 × qSt)) (v1 : Int32) (S : qSt) : Option (Int32 × qSt) := B8_runPlan_97 n K45 v1 0 S
set_option maxRecDepth 100000 in
set_option maxHeartbeats 4000000 in
theorem W8_runPlan_96 {r : Int32} {S2 : qSt} (C : qC g cX8_runPlan RX8 3 p s m meth c) (hr : meth.sig.returnType = (some .int)) (n : Nat) (K45 : Int32 → Int32 → qSt → Option (Int32 × qSt)) (hK45 : ∀ (v1 : Int32) (v2 : Int32) (S : qSt), K45 v1 v2 S = some (r, S2) → qR g NL qT 3 p l e rmX8_runPlan s m args below meth c 0 0 (MQ below (qQi g NL qT (qmem g S2) r) args s 0 0 (qA g)) (qmem g S) 45 [(0, .ref (qa g 111)), (1, .int v1), (2, .int v2)] []) (v1 : Int32) (S : qSt) (h : B8_runPlan_96 n K45 v1 S = some (r, S2)) : qR g NL qT 3 p l e rmX8_runPlan s m args below meth c 0 0 (MQ below (qQi g NL qT (qmem g S2) r) args s 0 0 (qA g)) (qmem g S) 96 [(0, .ref (qa g 111)), (1, .int v1)] [] := by
  unfold B8_runPlan_96 at h
  refine q_iconst (v := 0) C dX8_runPlan_96 (by decide) ?_
  exact W8_runPlan_97 C hr n K45 hK45 v1 0 S h
def B8_runPlan_79 (n : Nat) (K45 : Int32 → Int32 → qSt → Option (Int32 × qSt)) (v2 : Int32) (t0 : Int32) (t1 : Int32) (S : qSt) : Option (Int32 × qSt) := if v2 = 0 then (B8_runPlan_96 n K45 (t0 + t1) S) else (ob2 (F8_readBlank S) fun r14 S15 => if r14 = 0 then (B8_runPlan_96 n K45 (t0 + t1) S15) else (B8_runPlan_97 n K45 (t0 + t1) 1 S15))
set_option maxRecDepth 100000 in
set_option maxHeartbeats 4000000 in
theorem W8_runPlan_79 {r : Int32} {S2 : qSt} (C : qC g cX8_runPlan RX8 3 p s m meth c) (hr : meth.sig.returnType = (some .int)) (n : Nat) (K45 : Int32 → Int32 → qSt → Option (Int32 × qSt)) (hK45 : ∀ (v1 : Int32) (v2 : Int32) (S : qSt), K45 v1 v2 S = some (r, S2) → qR g NL qT 3 p l e rmX8_runPlan s m args below meth c 0 0 (MQ below (qQi g NL qT (qmem g S2) r) args s 0 0 (qA g)) (qmem g S) 45 [(0, .ref (qa g 111)), (1, .int v1), (2, .int v2)] []) (v2 : Int32) (t0 : Int32) (t1 : Int32) (S : qSt) (h : B8_runPlan_79 n K45 v2 t0 t1 S = some (r, S2)) : qR g NL qT 3 p l e rmX8_runPlan s m args below meth c 0 0 (MQ below (qQi g NL qT (qmem g S2) r) args s 0 0 (qA g)) (qmem g S) 79 [(0, .ref (qa g 111)), (2, .int v2)] [.int t1, .int t0] := by
  unfold B8_runPlan_79 at h
  refine q_iadd C dX8_runPlan_79 ?_
  refine q_istore_n C (lv' := [(1, .int (t0 + t1)), (0, .ref (qa g 111)), (2, .int v2)]) dX8_runPlan_80 rfl (by decide) rfl ?_
  refine q_norm [1, 0, 2] rfl ?_
  refine q_iload_n C 2 dX8_runPlan_81 rfl rfl ?_
  refine q_if_eq (tgt := 96) C h dX8_runPlan_82 (by decide) (fun h => ?_) (fun h => ?_)
  · refine q_norm [0, 1] rfl ?_
    exact W8_runPlan_96 C hr n K45 hK45 (t0 + t1) S h
  · refine q_aload_n C 0 dX8_runPlan_85 rfl rfl ?_
    obtain ⟨r14, S15, hc13, h⟩ := ob2_e h
    refine q_callVi0 C ltp_111 (qmem_o kd_111 (Nat.le_of_ble_eq_true rfl)) rfl rfl (kX8_readBlank S hc13) lm8_136 rfl (rest := []) rfl (Nat.le_of_ble_eq_true rfl) dX8_runPlan_86 ⟨rfl, rfl, Nat.le_of_ble_eq_true rfl, Nat.le_of_ble_eq_true rfl, Nat.le_of_ble_eq_true rfl, Nat.le_of_ble_eq_true rfl⟩ ?_
    refine q_if_eq (tgt := 96) C h dX8_runPlan_89 (by decide) (fun h => ?_) (fun h => ?_)
    · refine q_norm [0, 1] rfl ?_
      exact W8_runPlan_96 C hr n K45 hK45 (t0 + t1) S15 h
    · refine q_iconst (v := 1) C dX8_runPlan_92 (by decide) ?_
      refine q_goto (tgt := 97) C dX8_runPlan_93 (by decide) ?_
      refine q_norm [0, 1] rfl ?_
      exact W8_runPlan_97 C hr n K45 hK45 (t0 + t1) 1 S15 h
def B8_runPlan_68 (n : Nat) (K45 : Int32 → Int32 → qSt → Option (Int32 × qSt)) (v1 : Int32) (t0 : Int32) (S : qSt) : Option (Int32 × qSt) := if t0 = 0 then (B8_runPlan_79 n K45 t0 v1 0 S) else (B8_runPlan_79 n K45 t0 v1 1 S)
set_option maxRecDepth 100000 in
set_option maxHeartbeats 4000000 in
theorem W8_runPlan_68 {r : Int32} {S2 : qSt} (C : qC g cX8_runPlan RX8 3 p s m meth c) (hr : meth.sig.returnType = (some .int)) (n : Nat) (K45 : Int32 → Int32 → qSt → Option (Int32 × qSt)) (hK45 : ∀ (v1 : Int32) (v2 : Int32) (S : qSt), K45 v1 v2 S = some (r, S2) → qR g NL qT 3 p l e rmX8_runPlan s m args below meth c 0 0 (MQ below (qQi g NL qT (qmem g S2) r) args s 0 0 (qA g)) (qmem g S) 45 [(0, .ref (qa g 111)), (1, .int v1), (2, .int v2)] []) (v1 : Int32) (t0 : Int32) (S : qSt) (h : B8_runPlan_68 n K45 v1 t0 S = some (r, S2)) : qR g NL qT 3 p l e rmX8_runPlan s m args below meth c 0 0 (MQ below (qQi g NL qT (qmem g S2) r) args s 0 0 (qA g)) (qmem g S) 68 [(0, .ref (qa g 111)), (1, .int v1)] [.int t0] := by
  unfold B8_runPlan_68 at h
  refine q_istore_n C (lv' := [(2, .int t0), (0, .ref (qa g 111)), (1, .int v1)]) dX8_runPlan_68 rfl (by decide) rfl ?_
  refine q_norm [1, 2, 0] rfl ?_
  refine q_iload_n C 1 dX8_runPlan_69 rfl rfl ?_
  refine q_iload_n C 2 dX8_runPlan_70 rfl rfl ?_
  refine q_if_eq (tgt := 78) C h dX8_runPlan_71 (by decide) (fun h => ?_) (fun h => ?_)
  · refine q_iconst (v := 0) C dX8_runPlan_78 (by decide) ?_
    refine q_norm [0, 2] rfl ?_
    exact W8_runPlan_79 C hr n K45 hK45 t0 v1 0 S h
  · refine q_iconst (v := 1) C dX8_runPlan_74 (by decide) ?_
    refine q_goto (tgt := 79) C dX8_runPlan_75 (by decide) ?_
    refine q_norm [0, 2] rfl ?_
    exact W8_runPlan_79 C hr n K45 hK45 t0 v1 1 S h
def B8_runPlan_67 (n : Nat) (K45 : Int32 → Int32 → qSt → Option (Int32 × qSt)) (v1 : Int32) (S : qSt) : Option (Int32 × qSt) := B8_runPlan_68 n K45 v1 0 S
set_option maxRecDepth 100000 in
set_option maxHeartbeats 4000000 in
theorem W8_runPlan_67 {r : Int32} {S2 : qSt} (C : qC g cX8_runPlan RX8 3 p s m meth c) (hr : meth.sig.returnType = (some .int)) (n : Nat) (K45 : Int32 → Int32 → qSt → Option (Int32 × qSt)) (hK45 : ∀ (v1 : Int32) (v2 : Int32) (S : qSt), K45 v1 v2 S = some (r, S2) → qR g NL qT 3 p l e rmX8_runPlan s m args below meth c 0 0 (MQ below (qQi g NL qT (qmem g S2) r) args s 0 0 (qA g)) (qmem g S) 45 [(0, .ref (qa g 111)), (1, .int v1), (2, .int v2)] []) (v1 : Int32) (S : qSt) (h : B8_runPlan_67 n K45 v1 S = some (r, S2)) : qR g NL qT 3 p l e rmX8_runPlan s m args below meth c 0 0 (MQ below (qQi g NL qT (qmem g S2) r) args s 0 0 (qA g)) (qmem g S) 67 [(0, .ref (qa g 111)), (1, .int v1)] [] := by
  unfold B8_runPlan_67 at h
  refine q_iconst (v := 0) C dX8_runPlan_67 (by decide) ?_
  exact W8_runPlan_68 C hr n K45 hK45 v1 0 S h
def B8_runPlan_45 (n : Nat) : Nat → Int32 → Int32 → qSt → Option (Int32 × qSt)
  | 0, _, _, _ => none
  | n9 + 1, v1, v2, S => if v2 = 0 then (some (v1, S)) else (ob2 (F8_readCommand n S) fun r11 S12 => if r11 = 0 then (B8_runPlan_67 n (B8_runPlan_45 n n9) v1 S12) else (ob2 (F8_command S12) fun r17 S18 => if r17 = 0 then (B8_runPlan_67 n (B8_runPlan_45 n n9) v1 S18) else (B8_runPlan_68 n (B8_runPlan_45 n n9) v1 1 S18)))
set_option maxRecDepth 100000 in
set_option maxHeartbeats 4000000 in
theorem W8_runPlan_45 {r : Int32} {S2 : qSt} (C : qC g cX8_runPlan RX8 3 p s m meth c) (hr : meth.sig.returnType = (some .int)) (n : Nat) : ∀ (n9 : Nat) (v1 : Int32) (v2 : Int32) (S : qSt), B8_runPlan_45 n n9 v1 v2 S = some (r, S2) → qR g NL qT 3 p l e rmX8_runPlan s m args below meth c 0 0 (MQ below (qQi g NL qT (qmem g S2) r) args s 0 0 (qA g)) (qmem g S) 45 [(0, .ref (qa g 111)), (1, .int v1), (2, .int v2)] [] := by
  intro n9
  induction n9 with
  | zero =>
    intro v1 v2 S h
    have h9 : (none : Option (Int32 × qSt)) = some (r, S2) := h
    cases h9
  | succ n9 ih =>
    intro v1 v2 S h
    rw [B8_runPlan_45] at h
    refine q_iload_n C 2 dX8_runPlan_45 rfl rfl ?_
    refine q_if_eq (tgt := 101) C h dX8_runPlan_46 (by decide) (fun h => ?_) (fun h => ?_)
    · refine q_iload_n C 1 dX8_runPlan_101 rfl rfl ?_
      obtain ⟨rfl, rfl⟩ := Prod.mk.inj (Option.some.inj h)
      exact q_iret C hr (Nat.le_refl 0) (Nat.le_refl 0) dX8_runPlan_102
    · refine q_aload_n C 0 dX8_runPlan_49 rfl rfl ?_
      obtain ⟨r11, S12, hc10, h⟩ := ob2_e h
      refine q_callVi0 C ltp_111 (qmem_o kd_111 (Nat.le_of_ble_eq_true rfl)) rfl rfl (kX8_readCommand n S hc10) lm8_149 rfl (rest := []) rfl (Nat.le_of_ble_eq_true rfl) dX8_runPlan_50 ⟨rfl, rfl, Nat.le_of_ble_eq_true rfl, Nat.le_of_ble_eq_true rfl, Nat.le_of_ble_eq_true rfl, Nat.le_of_ble_eq_true rfl⟩ ?_
      refine q_if_eq (tgt := 67) C h dX8_runPlan_53 (by decide) (fun h => ?_) (fun h => ?_)
      · refine q_norm [0, 1] rfl ?_
        exact W8_runPlan_67 C hr n (B8_runPlan_45 n n9) ih v1 S12 h
      · refine q_aload_n C 0 dX8_runPlan_56 rfl rfl ?_
        obtain ⟨r17, S18, hc16, h⟩ := ob2_e h
        refine q_callVi0 C ltp_111 (qmem_o kd_111 (Nat.le_of_ble_eq_true rfl)) rfl rfl (kX8_command S12 hc16) lm8_201 rfl (rest := []) rfl (Nat.le_of_ble_eq_true rfl) dX8_runPlan_57 ⟨rfl, rfl, Nat.le_of_ble_eq_true rfl, Nat.le_of_ble_eq_true rfl, Nat.le_of_ble_eq_true rfl, Nat.le_of_ble_eq_true rfl⟩ ?_
        refine q_if_eq (tgt := 67) C h dX8_runPlan_60 (by decide) (fun h => ?_) (fun h => ?_)
        · refine q_norm [0, 1] rfl ?_
          exact W8_runPlan_67 C hr n (B8_runPlan_45 n n9) ih v1 S18 h
        · refine q_iconst (v := 1) C dX8_runPlan_63 (by decide) ?_
          refine q_goto (tgt := 68) C dX8_runPlan_64 (by decide) ?_
          refine q_norm [0, 1] rfl ?_
          exact W8_runPlan_68 C hr n (B8_runPlan_45 n n9) ih v1 1 S18 h
def B8_runPlan_44 (n : Nat) (v1 : Int32) (t0 : Int32) (S : qSt) : Option (Int32 × qSt) := B8_runPlan_45 n n v1 t0 S
set_option maxRecDepth 100000 in
set_option maxHeartbeats 4000000 in
theorem W8_runPlan_44 {r : Int32} {S2 : qSt} (C : qC g cX8_runPlan RX8 3 p s m meth c) (hr : meth.sig.returnType = (some .int)) (n : Nat) (v1 : Int32) (t0 : Int32) (S : qSt) (h : B8_runPlan_44 n v1 t0 S = some (r, S2)) : qR g NL qT 3 p l e rmX8_runPlan s m args below meth c 0 0 (MQ below (qQi g NL qT (qmem g S2) r) args s 0 0 (qA g)) (qmem g S) 44 [(0, .ref (qa g 111)), (1, .int v1)] [.int t0] := by
  unfold B8_runPlan_44 at h
  refine q_istore_n C (lv' := [(2, .int t0), (0, .ref (qa g 111)), (1, .int v1)]) dX8_runPlan_44 rfl (by decide) rfl ?_
  refine q_norm [1, 2, 0] rfl ?_
  exact W8_runPlan_45 C hr n n v1 t0 S h
def B8_runPlan_13 (n : Nat) (t1 : Int32) (S : qSt) : Option (Int32 × qSt) := ob2 (F8_refused t1 S) fun r5 S6 => if r5 = 0 then (ob1 (F8_remember n S6) fun S8 => obs (qup S8 111 3 0) fun S9 => if (S9 111 2) ≤ 0 then (B8_runPlan_44 n 0 0 S9) else (B8_runPlan_44 n 0 1 S9)) else (some (0, S6))
set_option maxRecDepth 100000 in
set_option maxHeartbeats 4000000 in
theorem W8_runPlan_13 {r : Int32} {S2 : qSt} (C : qC g cX8_runPlan RX8 3 p s m meth c) (hr : meth.sig.returnType = (some .int)) (n : Nat) (t1 : Int32) (S : qSt) (h : B8_runPlan_13 n t1 S = some (r, S2)) : qR g NL qT 3 p l e rmX8_runPlan s m args below meth c 0 0 (MQ below (qQi g NL qT (qmem g S2) r) args s 0 0 (qA g)) (qmem g S) 13 [(0, .ref (qa g 111))] [.int t1, .ref (qa g 111)] := by
  unfold B8_runPlan_13 at h
  obtain ⟨r5, S6, hc4, h⟩ := ob2_e h
  refine q_callVi0 C ltp_111 (qmem_o kd_111 (Nat.le_of_ble_eq_true rfl)) rfl rfl (kX8_refused t1 S hc4) lm8_103 rfl (rest := []) rfl (Nat.le_of_ble_eq_true rfl) dX8_runPlan_13 ⟨rfl, rfl, Nat.le_of_ble_eq_true rfl, Nat.le_of_ble_eq_true rfl, Nat.le_of_ble_eq_true rfl, Nat.le_of_ble_eq_true rfl⟩ ?_
  refine q_if_eq (tgt := 21) C h dX8_runPlan_16 (by decide) (fun h => ?_) (fun h => ?_)
  · refine q_aload_n C 0 dX8_runPlan_21 rfl rfl ?_
    obtain ⟨S8, hc7, h⟩ := ob1_e h
    refine q_callVv0 C ltp_111 (qmem_o kd_111 (Nat.le_of_ble_eq_true rfl)) rfl rfl (kX8_remember n S6 hc7) lm8_190 rfl (rest := []) rfl (Nat.le_of_ble_eq_true rfl) dX8_runPlan_22 ⟨rfl, rfl, Nat.le_of_ble_eq_true rfl, Nat.le_of_ble_eq_true rfl, Nat.le_of_ble_eq_true rfl, Nat.le_of_ble_eq_true rfl⟩ ?_
    refine q_iconst (v := 0) C dX8_runPlan_25 (by decide) ?_
    refine q_istore_n C (lv' := [(1, .int 0), (0, .ref (qa g 111))]) dX8_runPlan_26 rfl (by decide) rfl ?_
    refine q_norm [1, 0] rfl ?_
    refine q_aload_n C 0 dX8_runPlan_27 rfl rfl ?_
    refine q_iconst (v := 0) C dX8_runPlan_28 (by decide) ?_
    obtain ⟨S9, hS9, h⟩ := obs_e h
    refine s_puti C lf8_107 ltp_111 kd_111 dX8_runPlan_29 ?_
    rw [← hS9]
    refine q_aload_n C 0 dX8_runPlan_32 rfl rfl ?_
    refine s_geti C lf8_100 ltp_111 kd_111 dX8_runPlan_33 ?_
    refine q_if_le (tgt := 43) C h dX8_runPlan_36 (by decide) (fun h => ?_) (fun h => ?_)
    · refine q_iconst (v := 0) C dX8_runPlan_43 (by decide) ?_
      exact W8_runPlan_44 C hr n 0 0 S9 h
    · refine q_iconst (v := 1) C dX8_runPlan_39 (by decide) ?_
      refine q_goto (tgt := 44) C dX8_runPlan_40 (by decide) ?_
      exact W8_runPlan_44 C hr n 0 1 S9 h
  · refine q_iconst (v := 0) C dX8_runPlan_19 (by decide) ?_
    obtain ⟨rfl, rfl⟩ := Prod.mk.inj (Option.some.inj h)
    exact q_iret C hr (Nat.le_refl 0) (Nat.le_refl 0) dX8_runPlan_20
def F8_runPlan (n : Nat) (S : qSt) : Option (Int32 × qSt) := ob2 (F8_readPlan n S) fun r2 S3 => if r2 = 0 then (B8_runPlan_13 n 1 S3) else (B8_runPlan_13 n 0 S3)
set_option maxRecDepth 100000 in
set_option maxHeartbeats 4000000 in
theorem kX8_runPlan {l : Launch} {g : qG} (n : Nat) (S : qSt) {r : Int32} {S2 : qSt} (h : F8_runPlan n S = some (r, S2)) : Met l yX8_runPlan [.code yX8_runPlan cX8_runPlan 3 (some .int)] rmX8_runPlan (qPc g NL qT (qmem g S) [.ref (qa g 111)]) (qQi g NL qT (qmem g S2) r) 0 0 (qA g) := by
  refine q_met (by decide) (Nat.le_of_ble_eq_true rfl) (fun p e s m args below meth c C hr _ => ?_)
  have C : qC g cX8_runPlan RX8 3 p s m meth c := C
  show qR g NL qT 3 p l e rmX8_runPlan s m args below meth c 0 0 (MQ below (qQi g NL qT (qmem g S2) r) args s 0 0 (qA g)) (qmem g S) 0 [(0, .ref (qa g 111))] []
  unfold F8_runPlan at h
  refine q_aload_n C 0 dX8_runPlan_0 rfl rfl ?_
  refine q_aload_n C 0 dX8_runPlan_1 rfl rfl ?_
  obtain ⟨r2, S3, hc1, h⟩ := ob2_e h
  refine q_callVi0 C ltp_111 (qmem_o kd_111 (Nat.le_of_ble_eq_true rfl)) rfl rfl (kX8_readPlan n S hc1) lm8_152 rfl (rest := [.ref (qa g 111)]) rfl (Nat.le_of_ble_eq_true rfl) dX8_runPlan_2 ⟨rfl, rfl, Nat.le_of_ble_eq_true rfl, Nat.le_of_ble_eq_true rfl, Nat.le_of_ble_eq_true rfl, Nat.le_of_ble_eq_true rfl⟩ ?_
  refine q_if_eq (tgt := 12) C h dX8_runPlan_5 (by decide) (fun h => ?_) (fun h => ?_)
  · refine q_iconst (v := 1) C dX8_runPlan_12 (by decide) ?_
    exact W8_runPlan_13 C hr n 1 S3 h
  · refine q_iconst (v := 0) C dX8_runPlan_8 (by decide) ?_
    refine q_goto (tgt := 13) C dX8_runPlan_9 (by decide) ?_
    exact W8_runPlan_13 C hr n 0 S3 h
/-! ClosedStreetsModel.undo -/
abbrev rmX8_undo : Room := { frames := 1, cells := 0, slots := 0, locals := 40 }
def B8_undo_13 (n : Nat) (t1 : Int32) (S : qSt) : Option (Int32 × qSt) := ob2 (F8_refused t1 S) fun r2 S3 => if r2 = 0 then (obs (qup S3 111 8 ((S3 111 8) - 1)) fun S4 => ob1 (F8_copyTown n 116 (84 * (S4 111 8)) 114 0 S4) fun S6 => some (S6 111 8, S6)) else (some (0, S3))
set_option maxRecDepth 100000 in
set_option maxHeartbeats 4000000 in
theorem W8_undo_13 {r : Int32} {S2 : qSt} (C : qC g cX8_undo RX8 1 p s m meth c) (hr : meth.sig.returnType = (some .int)) (n : Nat) (t1 : Int32) (S : qSt) (h : B8_undo_13 n t1 S = some (r, S2)) : qR g NL qT 1 p l e rmX8_undo s m args below meth c 0 0 (MQ below (qQi g NL qT (qmem g S2) r) args s 0 0 (qA g)) (qmem g S) 13 [(0, .ref (qa g 111))] [.int t1, .ref (qa g 111)] := by
  unfold B8_undo_13 at h
  obtain ⟨r2, S3, hc1, h⟩ := ob2_e h
  refine q_callVi0 C ltp_111 (qmem_o kd_111 (Nat.le_of_ble_eq_true rfl)) rfl rfl (kX8_refused t1 S hc1) lm8_103 rfl (rest := []) rfl (Nat.le_of_ble_eq_true rfl) dX8_undo_13 ⟨rfl, rfl, Nat.le_of_ble_eq_true rfl, Nat.le_of_ble_eq_true rfl, Nat.le_of_ble_eq_true rfl, Nat.le_of_ble_eq_true rfl⟩ ?_
  refine q_if_eq (tgt := 21) C h dX8_undo_16 (by decide) (fun h => ?_) (fun h => ?_)
  · refine q_aload_n C 0 dX8_undo_21 rfl rfl ?_
    refine q_dup C dX8_undo_22 rfl ?_
    refine s_geti C lf8_158 ltp_111 kd_111 dX8_undo_23 ?_
    refine q_iconst (v := 1) C dX8_undo_26 (by decide) ?_
    refine q_isub C dX8_undo_27 ?_
    obtain ⟨S4, hS4, h⟩ := obs_e h
    refine s_puti C lf8_158 ltp_111 kd_111 dX8_undo_28 ?_
    rw [← hS4]
    refine q_aload_n C 0 dX8_undo_31 rfl rfl ?_
    refine s_getr (a := 116) C lf8_22 ltp_111 kd_111 rfl dX8_undo_32 ?_
    refine q_bipush (v := 84) C dX8_undo_35 (by decide) ?_
    refine q_aload_n C 0 dX8_undo_37 rfl rfl ?_
    refine s_geti C lf8_158 ltp_111 kd_111 dX8_undo_38 ?_
    refine q_imul C dX8_undo_41 ?_
    refine q_aload_n C 0 dX8_undo_42 rfl rfl ?_
    refine s_getr (a := 114) C lf8_16 ltp_111 kd_111 rfl dX8_undo_43 ?_
    refine q_iconst (v := 0) C dX8_undo_46 (by decide) ?_
    obtain ⟨S6, hc5, h⟩ := ob1_e h
    refine q_callSv0 C (kX8_copyTown n 116 (tyI_116) (84 * (S4 111 8)) 114 (tyI_114) 0 S4 hc5) lm8_161 rfl (rest := []) rfl (Nat.le_of_ble_eq_true rfl) dX8_undo_47 ⟨rfl, rfl, Nat.le_of_ble_eq_true rfl, Nat.le_of_ble_eq_true rfl, Nat.le_of_ble_eq_true rfl, Nat.le_of_ble_eq_true rfl⟩ ?_
    refine q_aload_n C 0 dX8_undo_50 rfl rfl ?_
    refine s_geti C lf8_158 ltp_111 kd_111 dX8_undo_51 ?_
    obtain ⟨rfl, rfl⟩ := Prod.mk.inj (Option.some.inj h)
    exact q_iret C hr (Nat.le_refl 0) (Nat.le_refl 0) dX8_undo_54
  · refine q_iconst (v := 0) C dX8_undo_19 (by decide) ?_
    obtain ⟨rfl, rfl⟩ := Prod.mk.inj (Option.some.inj h)
    exact q_iret C hr (Nat.le_refl 0) (Nat.le_refl 0) dX8_undo_20
def F8_undo (n : Nat) (S : qSt) : Option (Int32 × qSt) := if ¬ (S 111 8) = 0 then (B8_undo_13 n 0 S) else (B8_undo_13 n 1 S)
set_option maxRecDepth 100000 in
set_option maxHeartbeats 4000000 in
theorem kX8_undo {l : Launch} {g : qG} (n : Nat) (S : qSt) {r : Int32} {S2 : qSt} (h : F8_undo n S = some (r, S2)) : Met l yX8_undo [.code yX8_undo cX8_undo 1 (some .int)] rmX8_undo (qPc g NL qT (qmem g S) [.ref (qa g 111)]) (qQi g NL qT (qmem g S2) r) 0 0 (qA g) := by
  refine q_met (by decide) (Nat.le_of_ble_eq_true rfl) (fun p e s m args below meth c C hr _ => ?_)
  have C : qC g cX8_undo RX8 1 p s m meth c := C
  show qR g NL qT 1 p l e rmX8_undo s m args below meth c 0 0 (MQ below (qQi g NL qT (qmem g S2) r) args s 0 0 (qA g)) (qmem g S) 0 [(0, .ref (qa g 111))] []
  unfold F8_undo at h
  refine q_aload_n C 0 dX8_undo_0 rfl rfl ?_
  refine q_aload_n C 0 dX8_undo_1 rfl rfl ?_
  refine s_geti C lf8_158 ltp_111 kd_111 dX8_undo_2 ?_
  refine q_if_ne (tgt := 12) C h dX8_undo_5 (by decide) (fun h => ?_) (fun h => ?_)
  · refine q_iconst (v := 0) C dX8_undo_12 (by decide) ?_
    exact W8_undo_13 C hr n 0 S h
  · refine q_iconst (v := 1) C dX8_undo_8 (by decide) ?_
    refine q_goto (tgt := 13) C dX8_undo_9 (by decide) ?_
    exact W8_undo_13 C hr n 1 S h
/-! ClosedStreetsModel.without -/
abbrev rmX8_without : Room := { frames := 3, cells := 0, slots := 0, locals := 120 }
def B8_without_17 (n : Nat) (v1 : Int32) (t1 : Int32) (S : qSt) : Option (Int32 × qSt) := ob2 (F8_refused t1 S) fun r4 S5 => if r4 = 0 then (ob2 (F8_bestBut n 114 v1 S5) fun r7 S8 => some (r7, S8)) else (some (0, S5))
set_option maxRecDepth 100000 in
set_option maxHeartbeats 4000000 in
theorem W8_without_17 {r : Int32} {S2 : qSt} (C : qC g cX8_without RX8 2 p s m meth c) (hr : meth.sig.returnType = (some .int)) (n : Nat) (v1 : Int32) (t1 : Int32) (S : qSt) (h : B8_without_17 n v1 t1 S = some (r, S2)) : qR g NL qT 2 p l e rmX8_without s m args below meth c 0 0 (MQ below (qQi g NL qT (qmem g S2) r) args s 0 0 (qA g)) (qmem g S) 17 [(0, .ref (qa g 111)), (1, .int v1)] [.int t1, .ref (qa g 111)] := by
  unfold B8_without_17 at h
  obtain ⟨r4, S5, hc3, h⟩ := ob2_e h
  refine q_callVi0 C ltp_111 (qmem_o kd_111 (Nat.le_of_ble_eq_true rfl)) rfl rfl (kX8_refused t1 S hc3) lm8_103 rfl (rest := []) rfl (Nat.le_of_ble_eq_true rfl) dX8_without_17 ⟨rfl, rfl, Nat.le_of_ble_eq_true rfl, Nat.le_of_ble_eq_true rfl, Nat.le_of_ble_eq_true rfl, Nat.le_of_ble_eq_true rfl⟩ ?_
  refine q_if_eq (tgt := 25) C h dX8_without_20 (by decide) (fun h => ?_) (fun h => ?_)
  · refine q_aload_n C 0 dX8_without_25 rfl rfl ?_
    refine q_aload_n C 0 dX8_without_26 rfl rfl ?_
    refine s_getr (a := 114) C lf8_16 ltp_111 kd_111 rfl dX8_without_27 ?_
    refine q_iload_n C 1 dX8_without_30 rfl rfl ?_
    obtain ⟨r7, S8, hc6, h⟩ := ob2_e h
    refine q_callVi0 C ltp_111 (qmem_o kd_111 (Nat.le_of_ble_eq_true rfl)) rfl rfl (kX8_bestBut n 114 (tyI_114) v1 S5 hc6) lm8_88 rfl (rest := []) rfl (Nat.le_of_ble_eq_true rfl) dX8_without_31 ⟨rfl, rfl, Nat.le_of_ble_eq_true rfl, Nat.le_of_ble_eq_true rfl, Nat.le_of_ble_eq_true rfl, Nat.le_of_ble_eq_true rfl⟩ ?_
    obtain ⟨rfl, rfl⟩ := Prod.mk.inj (Option.some.inj h)
    exact q_iret C hr (Nat.le_refl 0) (Nat.le_refl 0) dX8_without_34
  · refine q_iconst (v := 0) C dX8_without_23 (by decide) ?_
    obtain ⟨rfl, rfl⟩ := Prod.mk.inj (Option.some.inj h)
    exact q_iret C hr (Nat.le_refl 0) (Nat.le_refl 0) dX8_without_24
def F8_without (n : Nat) (v1 : Int32) (S : qSt) : Option (Int32 × qSt) := ob1 (F8_isStreet 114 v1 S) fun r2 => if r2 = 0 then (B8_without_17 n v1 1 S) else (B8_without_17 n v1 0 S)
set_option maxRecDepth 100000 in
set_option maxHeartbeats 4000000 in
theorem kX8_without {l : Launch} {g : qG} (n : Nat) (v1 : Int32) (S : qSt) {r : Int32} {S2 : qSt} (h : F8_without n v1 S = some (r, S2)) : Met l yX8_without [.code yX8_without cX8_without 2 (some .int)] rmX8_without (qPc g NL qT (qmem g S) [.ref (qa g 111), .int v1]) (qQi g NL qT (qmem g S2) r) 0 0 (qA g) := by
  refine q_met (by decide) (Nat.le_of_ble_eq_true rfl) (fun p e s m args below meth c C hr _ => ?_)
  have C : qC g cX8_without RX8 2 p s m meth c := C
  show qR g NL qT 2 p l e rmX8_without s m args below meth c 0 0 (MQ below (qQi g NL qT (qmem g S2) r) args s 0 0 (qA g)) (qmem g S) 0 [(0, .ref (qa g 111)), (1, .int v1)] []
  unfold F8_without at h
  refine q_aload_n C 0 dX8_without_0 rfl rfl ?_
  refine q_aload_n C 0 dX8_without_1 rfl rfl ?_
  refine s_getr (a := 114) C lf8_16 ltp_111 kd_111 rfl dX8_without_2 ?_
  refine q_iload_n C 1 dX8_without_5 rfl rfl ?_
  obtain ⟨r2, hc1, h⟩ := ob1_e h
  refine q_callSi0 C (kX8_isStreet 114 (tyI_114) v1 S hc1) lm8_173 rfl (rest := [.ref (qa g 111)]) rfl (Nat.le_of_ble_eq_true rfl) dX8_without_6 ⟨rfl, rfl, Nat.le_of_ble_eq_true rfl, Nat.le_of_ble_eq_true rfl, Nat.le_of_ble_eq_true rfl, Nat.le_of_ble_eq_true rfl⟩ ?_
  refine q_if_eq (tgt := 16) C h dX8_without_9 (by decide) (fun h => ?_) (fun h => ?_)
  · refine q_iconst (v := 1) C dX8_without_16 (by decide) ?_
    exact W8_without_17 C hr n v1 1 S h
  · refine q_iconst (v := 0) C dX8_without_12 (by decide) ?_
    refine q_goto (tgt := 17) C dX8_without_13 (by decide) ?_
    exact W8_without_17 C hr n v1 0 S h
end
