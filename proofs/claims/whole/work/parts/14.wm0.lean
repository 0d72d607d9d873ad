section
variable {l : Launch} {g : qG} {p : Program} {e : Env} {s : State} {m : MethodId} {args : Array Value} {below : List Frame} {meth : Method} {c : Code}
/-! ClosedStreetsModel.clear -/
abbrev rmX8_clear : Room := { frames := 0, cells := 0, slots := 0, locals := 0 }
def B8_clear_18 (n : Nat) (a0 : Nat) (v1 : Int32) (S : qSt) : Option qSt := if qin (0 : Int32) (kd a0).2 = true then some (qup S a0 (0 : Int32).toNatClampNeg v1) else none
set_option maxRecDepth 100000 in
set_option maxHeartbeats 4000000 in
theorem W8_clear_18 {S2 : qSt} (C : qC g cX8_clear RX8 3 p s m meth c) (hr : meth.sig.returnType = none) (n : Nat) (a0 : Nat) (ha0 : tyI a0) (v1 : Int32) (S : qSt) (h : B8_clear_18 n a0 v1 S = some S2) : qR g NL qT 3 p l e rmX8_clear s m args below meth c 0 0 (MQ below (qQv g NL qT (qmem g S2)) args s 0 0 (qA g)) (qmem g S) 18 [(0, .ref (qa g a0)), (1, .int v1)] [] := by
  unfold B8_clear_18 at h
  refine q_aload_n C 0 dX8_clear_18 rfl rfl ?_
  refine q_iconst (v := 0) C dX8_clear_19 (by decide) ?_
  refine q_iload_n C 1 dX8_clear_20 rfl rfl ?_
  obtain ⟨hb1, h⟩ := q_if h
  refine s_iast C ha0.1 ha0.2 hb1 dX8_clear_21 ?_
  obtain rfl := Option.some.inj h
  exact q_vret C hr (Nat.le_refl 0) (Nat.le_refl 0) dX8_clear_22
def B8_clear_2 (n : Nat) (a0 : Nat) : Nat → Int32 → Int32 → qSt → Option qSt
  | 0, _, _, _ => none
  | n9 + 1, v1, v2, S => if 84 ≤ v2 then (B8_clear_18 n a0 v1 S) else (if qin v2 (kd a0).2 = true then obs (qup S a0 v2.toNatClampNeg (0 : Int32)) fun S3 => (B8_clear_2 n a0 n9) v1 (v2 + 1) S3 else none)
set_option maxRecDepth 100000 in
set_option maxHeartbeats 4000000 in
theorem W8_clear_2 {S2 : qSt} (C : qC g cX8_clear RX8 3 p s m meth c) (hr : meth.sig.returnType = none) (n : Nat) (a0 : Nat) (ha0 : tyI a0) : ∀ (n9 : Nat) (v1 : Int32) (v2 : Int32) (S : qSt), B8_clear_2 n a0 n9 v1 v2 S = some S2 → qR g NL qT 3 p l e rmX8_clear s m args below meth c 0 0 (MQ below (qQv g NL qT (qmem g S2)) args s 0 0 (qA g)) (qmem g S) 2 [(0, .ref (qa g a0)), (1, .int v1), (2, .int v2)] [] := by
  intro n9
  induction n9 with
  | zero =>
    intro v1 v2 S h
    have h9 : (none : Option qSt) = some S2 := h
    cases h9
  | succ n9 ih =>
    intro v1 v2 S h
    rw [B8_clear_2] at h
    refine q_iload_n C 2 dX8_clear_2 rfl rfl ?_
    refine q_bipush (v := 84) C dX8_clear_3 (by decide) ?_
    refine q_icmp_ge (tgt := 18) C h dX8_clear_5 (by decide) (fun h => ?_) (fun h => ?_)
    · refine q_norm [0, 1] rfl ?_
      exact W8_clear_18 C hr n a0 ha0 v1 S h
    · refine q_aload_n C 0 dX8_clear_8 rfl rfl ?_
      refine q_iload_n C 2 dX8_clear_9 rfl rfl ?_
      refine q_iconst (v := 0) C dX8_clear_10 (by decide) ?_
      obtain ⟨hb2, h⟩ := q_if h
      obtain ⟨S3, hS3, h⟩ := obs_e h
      refine s_iast C ha0.1 ha0.2 hb2 dX8_clear_11 ?_
      rw [← hS3]
      refine q_iinc C 2 (v := v2 + 1) (lv' := [(2, .int (v2 + 1)), (0, .ref (qa g a0)), (1, .int v1)]) dX8_clear_12 rfl rfl (by decide) rfl ?_
      refine q_norm [1, 2, 0] rfl ?_
      refine q_goto (tgt := 2) C dX8_clear_15 (by decide) ?_
      exact ih v1 (v2 + 1) S3 h
def F8_clear (n : Nat) (a0 : Nat) (v1 : Int32) (S : qSt) : Option qSt := B8_clear_2 n a0 n v1 0 S
set_option maxRecDepth 100000 in
set_option maxHeartbeats 4000000 in
theorem kX8_clear {l : Launch} {g : qG} (n : Nat) (a0 : Nat) (ha0 : tyI a0) (v1 : Int32) (S : qSt) {S2 : qSt} (h : F8_clear n a0 v1 S = some S2) : Met l yX8_clear [.code yX8_clear cX8_clear 3 none] rmX8_clear (qPc g NL qT (qmem g S) [.ref (qa g a0), .int v1]) (qQv g NL qT (qmem g S2)) 0 0 (qA g) := by
  refine q_met (by decide) (Nat.le_of_ble_eq_true rfl) (fun p e s m args below meth c C hr _ => ?_)
  have C : qC g cX8_clear RX8 3 p s m meth c := C
  show qR g NL qT 3 p l e rmX8_clear s m args below meth c 0 0 (MQ below (qQv g NL qT (qmem g S2)) args s 0 0 (qA g)) (qmem g S) 0 [(0, .ref (qa g a0)), (1, .int v1)] []
  unfold F8_clear at h
  refine q_iconst (v := 0) C dX8_clear_0 (by decide) ?_
  refine q_istore_n C (lv' := [(2, .int 0), (0, .ref (qa g a0)), (1, .int v1)]) dX8_clear_1 rfl (by decide) rfl ?_
  refine q_norm [1, 2, 0] rfl ?_
  exact W8_clear_2 C hr n a0 ha0 n v1 0 S h
/-! ClosedStreetsModel.tell -/
abbrev rmX8_tell : Room := { frames := 0, cells := 0, slots := 0, locals := 0 }
def F8_tell (v1 : Int32) (v2 : Int32) (v3 : Int32) (v4 : Int32) (v5 : Int32) (v6 : Int32) (S : qSt) : Option qSt := if qin v1 25 = true then obs (qup S 119 v1.toNatClampNeg v2) fun S2 => if qin (v1 + 1) 25 = true then obs (qup S2 119 (v1 + 1).toNatClampNeg v3) fun S4 => if qin (v1 + 2) 25 = true then obs (qup S4 119 (v1 + 2).toNatClampNeg v4) fun S6 => if qin (v1 + 3) 25 = true then obs (qup S6 119 (v1 + 3).toNatClampNeg v5) fun S8 => if qin (v1 + 4) 25 = true then some (qup S8 119 (v1 + 4).toNatClampNeg v6) else none else none else none else none else none
set_option maxRecDepth 100000 in
set_option maxHeartbeats 4000000 in
theorem kX8_tell {l : Launch} {g : qG} (v1 : Int32) (v2 : Int32) (v3 : Int32) (v4 : Int32) (v5 : Int32) (v6 : Int32) (S : qSt) {S2 : qSt} (h : F8_tell v1 v2 v3 v4 v5 v6 S = some S2) : Met l yX8_tell [.code yX8_tell cX8_tell 7 none] rmX8_tell (qPc g NL qT (qmem g S) [.ref (qa g 111), .int v1, .int v2, .int v3, .int v4, .int v5, .int v6]) (qQv g NL qT (qmem g S2)) 0 0 (qA g) := by
  refine q_met (by decide) (Nat.le_of_ble_eq_true rfl) (fun p e s m args below meth c C hr _ => ?_)
  have C : qC g cX8_tell RX8 7 p s m meth c := C
  show qR g NL qT 7 p l e rmX8_tell s m args below meth c 0 0 (MQ below (qQv g NL qT (qmem g S2)) args s 0 0 (qA g)) (qmem g S) 0 [(0, .ref (qa g 111)), (1, .int v1), (2, .int v2), (3, .int v3), (4, .int v4), (5, .int v5), (6, .int v6)] []
  unfold F8_tell at h
  refine q_aload_n C 0 dX8_tell_0 rfl rfl ?_
  refine s_getr (a := 119) C lf8_32 ltp_111 kd_111 rfl dX8_tell_1 ?_
  refine q_iload_n C 1 dX8_tell_4 rfl rfl ?_
  refine q_iload_n C 2 dX8_tell_5 rfl rfl ?_
  obtain ⟨hb1, h⟩ := q_if h
  obtain ⟨S2, hS2, h⟩ := obs_e h
  refine s_iast C ltp_119 kd_119 hb1 dX8_tell_6 ?_
  rw [← hS2]
  refine q_aload_n C 0 dX8_tell_7 rfl rfl ?_
  refine s_getr (a := 119) C lf8_32 ltp_111 kd_111 rfl dX8_tell_8 ?_
  refine q_iload_n C 1 dX8_tell_11 rfl rfl ?_
  refine q_iconst (v := 1) C dX8_tell_12 (by decide) ?_
  refine q_iadd C dX8_tell_13 ?_
  refine q_iload_n C 3 dX8_tell_14 rfl rfl ?_
  obtain ⟨hb3, h⟩ := q_if h
  obtain ⟨S4, hS4, h⟩ := obs_e h
  refine s_iast C ltp_119 kd_119 hb3 dX8_tell_15 ?_
  rw [← hS4]
  refine q_aload_n C 0 dX8_tell_16 rfl rfl ?_
  refine s_getr (a := 119) C lf8_32 ltp_111 kd_111 rfl dX8_tell_17 ?_
  refine q_iload_n C 1 dX8_tell_20 rfl rfl ?_
  refine q_iconst (v := 2) C dX8_tell_21 (by decide) ?_
  refine q_iadd C dX8_tell_22 ?_
  refine q_iload C 4 dX8_tell_23 rfl ?_
  obtain ⟨hb5, h⟩ := q_if h
  obtain ⟨S6, hS6, h⟩ := obs_e h
  refine s_iast C ltp_119 kd_119 hb5 dX8_tell_25 ?_
  rw [← hS6]
  refine q_aload_n C 0 dX8_tell_26 rfl rfl ?_
  refine s_getr (a := 119) C lf8_32 ltp_111 kd_111 rfl dX8_tell_27 ?_
  refine q_iload_n C 1 dX8_tell_30 rfl rfl ?_
  refine q_iconst (v := 3) C dX8_tell_31 (by decide) ?_
  refine q_iadd C dX8_tell_32 ?_
  refine q_iload C 5 dX8_tell_33 rfl ?_
  obtain ⟨hb7, h⟩ := q_if h
  obtain ⟨S8, hS8, h⟩ := obs_e h
  refine s_iast C ltp_119 kd_119 hb7 dX8_tell_35 ?_
  rw [← hS8]
  refine q_aload_n C 0 dX8_tell_36 rfl rfl ?_
  refine s_getr (a := 119) C lf8_32 ltp_111 kd_111 rfl dX8_tell_37 ?_
  refine q_iload_n C 1 dX8_tell_40 rfl rfl ?_
  refine q_iconst (v := 4) C dX8_tell_41 (by decide) ?_
  refine q_iadd C dX8_tell_42 ?_
  refine q_iload C 6 dX8_tell_43 rfl ?_
  obtain ⟨hb9, h⟩ := q_if h
  refine s_iast C ltp_119 kd_119 hb9 dX8_tell_45 ?_
  obtain rfl := Option.some.inj h
  exact q_vret C hr (Nat.le_refl 0) (Nat.le_refl 0) dX8_tell_46
/-! ClosedStreetsModel.thrown -/
abbrev rmX8_thrown : Room := { frames := 0, cells := 0, slots := 0, locals := 0 }
def F8_thrown (S : qSt) : Int32 := S 111 0
set_option maxRecDepth 100000 in
set_option maxHeartbeats 4000000 in
theorem kX8_thrown {l : Launch} {g : qG} (S : qSt) : Met l yX8_thrown [.code yX8_thrown cX8_thrown 1 (some .int)] rmX8_thrown (qPc g NL qT (qmem g S) [.ref (qa g 111)]) (qQi g NL qT (qmem g S) (F8_thrown S)) 0 0 (qA g) := by
  obtain ⟨r, h⟩ : ∃ r, F8_thrown S = r := ⟨_, rfl⟩
  rw [h]
  refine q_met (by decide) (Nat.le_of_ble_eq_true rfl) (fun p e s m args below meth c C hr _ => ?_)
  have C : qC g cX8_thrown RX8 1 p s m meth c := C
  show qR g NL qT 1 p l e rmX8_thrown s m args below meth c 0 0 (MQ below (qQi g NL qT (qmem g S) r) args s 0 0 (qA g)) (qmem g S) 0 [(0, .ref (qa g 111))] []
  unfold F8_thrown at h
  refine q_aload_n C 0 dX8_thrown_0 rfl rfl ?_
  refine s_geti C lf8_61 ltp_111 kd_111 dX8_thrown_1 ?_
  subst h
  exact q_iret C hr (Nat.le_refl 0) (Nat.le_refl 0) dX8_thrown_4
/-! ClosedStreetsModel.refused -/
abbrev rmX8_refused : Room := { frames := 0, cells := 0, slots := 0, locals := 0 }
def F8_refused (v1 : Int32) (S : qSt) : Option (Int32 × qSt) := obs (qup S 111 0 v1) fun S1 => if v1 ≤ 0 then (some (0, S1)) else (some (1, S1))
set_option maxRecDepth 100000 in
set_option maxHeartbeats 4000000 in
theorem kX8_refused {l : Launch} {g : qG} (v1 : Int32) (S : qSt) {r : Int32} {S2 : qSt} (h : F8_refused v1 S = some (r, S2)) : Met l yX8_refused [.code yX8_refused cX8_refused 2 (some .boolean)] rmX8_refused (qPc g NL qT (qmem g S) [.ref (qa g 111), .int v1]) (qQi g NL qT (qmem g S2) r) 0 0 (qA g) := by
  refine q_met (by decide) (Nat.le_of_ble_eq_true rfl) (fun p e s m args below meth c C hr _ => ?_)
  have C : qC g cX8_refused RX8 2 p s m meth c := C
  show qR g NL qT 2 p l e rmX8_refused s m args below meth c 0 0 (MQ below (qQi g NL qT (qmem g S2) r) args s 0 0 (qA g)) (qmem g S) 0 [(0, .ref (qa g 111)), (1, .int v1)] []
  unfold F8_refused at h
  refine q_aload_n C 0 dX8_refused_0 rfl rfl ?_
  refine q_iload_n C 1 dX8_refused_1 rfl rfl ?_
  obtain ⟨S1, hS1, h⟩ := obs_e h
  refine s_puti C lf8_61 ltp_111 kd_111 dX8_refused_2 ?_
  rw [← hS1]
  refine q_iload_n C 1 dX8_refused_5 rfl rfl ?_
  refine q_if_le (tgt := 13) C h dX8_refused_6 (by decide) (fun h => ?_) (fun h => ?_)
  · refine q_iconst (v := 0) C dX8_refused_13 (by decide) ?_
    obtain ⟨rfl, rfl⟩ := Prod.mk.inj (Option.some.inj h)
    exact q_zret C hr (by decide) (Nat.le_refl 0) (Nat.le_refl 0) dX8_refused_14
  · refine q_iconst (v := 1) C dX8_refused_9 (by decide) ?_
    refine q_goto (tgt := 14) C dX8_refused_10 (by decide) ?_
    obtain ⟨rfl, rfl⟩ := Prod.mk.inj (Option.some.inj h)
    exact q_zret C hr (by decide) (Nat.le_refl 0) (Nat.le_refl 0) dX8_refused_14
/-! ClosedStreetsModel.in -/
abbrev rmX8_in : Room := { frames := 0, cells := 0, slots := 0, locals := 0 }
def F8_in (w0 : Int64) (w2 : Int64) (w4 : Int64) (S : qSt) : Int32 := if (lg_cmp w0 w2) < 0 then (0) else (if 0 < (lg_cmp w0 w4) then (0) else (1))
set_option maxRecDepth 100000 in
set_option maxHeartbeats 4000000 in
theorem kX8_in {l : Launch} {g : qG} (w0 : Int64) (w2 : Int64) (w4 : Int64) (S : qSt) : Met l yX8_in [.code yX8_in cX8_in 6 (some .boolean)] rmX8_in (qPc g NL qT (qmem g S) [.long w0, .long w2, .long w4]) (qQi g NL qT (qmem g S) (F8_in w0 w2 w4 S)) 0 0 (qA g) := by
  obtain ⟨r, h⟩ : ∃ r, F8_in w0 w2 w4 S = r := ⟨_, rfl⟩
  rw [h]
  refine q_met (by decide) (Nat.le_of_ble_eq_true rfl) (fun p e s m args below meth c C hr _ => ?_)
  have C : qC g cX8_in RX8 6 p s m meth c := C
  show qR g NL qT 6 p l e rmX8_in s m args below meth c 0 0 (MQ below (qQi g NL qT (qmem g S) r) args s 0 0 (qA g)) (qmem g S) 0 [(0, .long w0), (2, .long w2), (4, .long w4)] []
  unfold F8_in at h
  refine q_lload_n C 0 dX8_in_0 rfl rfl ?_
  refine q_lload_n C 1 dX8_in_1 rfl rfl ?_
  refine q_lcmp C dX8_in_2 ?_
  refine q_if_lt (tgt := 17) C h dX8_in_3 (by decide) (fun h => ?_) (fun h => ?_)
  · refine q_iconst (v := 0) C dX8_in_17 (by decide) ?_
    subst h
    exact q_zret C hr (by decide) (Nat.le_refl 0) (Nat.le_refl 0) dX8_in_18
  · refine q_lload_n C 0 dX8_in_6 rfl rfl ?_
    refine q_lload C 2 dX8_in_7 rfl ?_
    refine q_lcmp C dX8_in_9 ?_
    refine q_if_gt (tgt := 17) C h dX8_in_10 (by decide) (fun h => ?_) (fun h => ?_)
    · refine q_iconst (v := 0) C dX8_in_17 (by decide) ?_
      subst h
      exact q_zret C hr (by decide) (Nat.le_refl 0) (Nat.le_refl 0) dX8_in_18
    · refine q_iconst (v := 1) C dX8_in_13 (by decide) ?_
      refine q_goto (tgt := 18) C dX8_in_14 (by decide) ?_
      subst h
      exact q_zret C hr (by decide) (Nat.le_refl 0) (Nat.le_refl 0) dX8_in_18
/-! ClosedStreetsModel.copyTown -/
abbrev rmX8_copyTown : Room := { frames := 0, cells := 0, slots := 0, locals := 0 }
def B8_copyTown_3 (n : Nat) (a0 : Nat) (a2 : Nat) : Nat → Int32 → Int32 → Int32 → qSt → Option qSt
  | 0, _, _, _, _ => none
  | n9 + 1, v1, v3, v4, S => if 84 ≤ v4 then (some S) else (if qin (v1 + v4) (kd a0).2 = true then if qin (v3 + v4) (kd a2).2 = true then obs (qup S a2 (v3 + v4).toNatClampNeg (S a0 (v1 + v4).toNatClampNeg)) fun S3 => (B8_copyTown_3 n a0 a2 n9) v1 v3 (v4 + 1) S3 else none else none)
set_option maxRecDepth 100000 in
set_option maxHeartbeats 4000000 in
theorem W8_copyTown_3 {S2 : qSt} (C : qC g cX8_copyTown RX8 5 p s m meth c) (hr : meth.sig.returnType = none) (n : Nat) (a0 : Nat) (ha0 : tyI a0) (a2 : Nat) (ha2 : tyI a2) : ∀ (n9 : Nat) (v1 : Int32) (v3 : Int32) (v4 : Int32) (S : qSt), B8_copyTown_3 n a0 a2 n9 v1 v3 v4 S = some S2 → qR g NL qT 5 p l e rmX8_copyTown s m args below meth c 0 0 (MQ below (qQv g NL qT (qmem g S2)) args s 0 0 (qA g)) (qmem g S) 3 [(0, .ref (qa g a0)), (1, .int v1), (2, .ref (qa g a2)), (3, .int v3), (4, .int v4)] [] := by
  intro n9
  induction n9 with
  | zero =>
    intro v1 v3 v4 S h
    have h9 : (none : Option qSt) = some S2 := h
    cases h9
  | succ n9 ih =>
    intro v1 v3 v4 S h
    rw [B8_copyTown_3] at h
    refine q_iload C 4 dX8_copyTown_3 rfl ?_
    refine q_bipush (v := 84) C dX8_copyTown_5 (by decide) ?_
    refine q_icmp_ge (tgt := 28) C h dX8_copyTown_7 (by decide) (fun h => ?_) (fun h => ?_)
    · obtain rfl := Option.some.inj h
      exact q_vret C hr (Nat.le_refl 0) (Nat.le_refl 0) dX8_copyTown_28
    · refine q_aload_n C 2 dX8_copyTown_10 rfl rfl ?_
      refine q_iload_n C 3 dX8_copyTown_11 rfl rfl ?_
      refine q_iload C 4 dX8_copyTown_12 rfl ?_
      refine q_iadd C dX8_copyTown_14 ?_
      refine q_aload_n C 0 dX8_copyTown_15 rfl rfl ?_
      refine q_iload_n C 1 dX8_copyTown_16 rfl rfl ?_
      refine q_iload C 4 dX8_copyTown_17 rfl ?_
      refine q_iadd C dX8_copyTown_19 ?_
      obtain ⟨hb1, h⟩ := q_if h
      refine s_iald C ha0.1 ha0.2 hb1 dX8_copyTown_20 ?_
      obtain ⟨hb2, h⟩ := q_if h
      obtain ⟨S3, hS3, h⟩ := obs_e h
      refine s_iast C ha2.1 ha2.2 hb2 dX8_copyTown_21 ?_
      rw [← hS3]
      refine q_iinc C 4 (v := v4 + 1) (lv' := [(4, .int (v4 + 1)), (0, .ref (qa g a0)), (1, .int v1), (2, .ref (qa g a2)), (3, .int v3)]) dX8_copyTown_22 rfl rfl (by decide) rfl ?_
      refine q_norm [1, 2, 3, 4, 0] rfl ?_
      refine q_goto (tgt := 3) C dX8_copyTown_25 (by decide) ?_
      exact ih v1 v3 (v4 + 1) S3 h
def F8_copyTown (n : Nat) (a0 : Nat) (v1 : Int32) (a2 : Nat) (v3 : Int32) (S : qSt) : Option qSt := B8_copyTown_3 n a0 a2 n v1 v3 0 S
set_option maxRecDepth 100000 in
set_option maxHeartbeats 4000000 in
theorem kX8_copyTown {l : Launch} {g : qG} (n : Nat) (a0 : Nat) (ha0 : tyI a0) (v1 : Int32) (a2 : Nat) (ha2 : tyI a2) (v3 : Int32) (S : qSt) {S2 : qSt} (h : F8_copyTown n a0 v1 a2 v3 S = some S2) : Met l yX8_copyTown [.code yX8_copyTown cX8_copyTown 5 none] rmX8_copyTown (qPc g NL qT (qmem g S) [.ref (qa g a0), .int v1, .ref (qa g a2), .int v3]) (qQv g NL qT (qmem g S2)) 0 0 (qA g) := by
  refine q_met (by decide) (Nat.le_of_ble_eq_true rfl) (fun p e s m args below meth c C hr _ => ?_)
  have C : qC g cX8_copyTown RX8 5 p s m meth c := C
  show qR g NL qT 5 p l e rmX8_copyTown s m args below meth c 0 0 (MQ below (qQv g NL qT (qmem g S2)) args s 0 0 (qA g)) (qmem g S) 0 [(0, .ref (qa g a0)), (1, .int v1), (2, .ref (qa g a2)), (3, .int v3)] []
  unfold F8_copyTown at h
  refine q_iconst (v := 0) C dX8_copyTown_0 (by decide) ?_
  refine q_istore C (lv' := [(4, .int 0), (0, .ref (qa g a0)), (1, .int v1), (2, .ref (qa g a2)), (3, .int v3)]) dX8_copyTown_1 (by decide) rfl ?_
  refine q_norm [1, 2, 3, 4, 0] rfl ?_
  exact W8_copyTown_3 C hr n a0 ha0 a2 ha2 n v1 v3 0 S h
/-! ClosedStreetsModel.isCrossing -/
abbrev rmX8_isCrossing : Room := { frames := 1, cells := 0, slots := 0, locals := 40 }
def F8_isCrossing (a0 : Nat) (v1 : Int32) (S : qSt) : Option Int32 := if qin (0 : Int32) (kd a0).2 = true then if (F8_in v1.toInt64 0 (((S a0 (0 : Int32).toNatClampNeg) - 1).toInt64) S) &&& 1 = (F8_in v1.toInt64 0 (((S a0 (0 : Int32).toNatClampNeg) - 1).toInt64) S) then some (F8_in v1.toInt64 0 (((S a0 (0 : Int32).toNatClampNeg) - 1).toInt64) S) else none else none
set_option maxRecDepth 100000 in
set_option maxHeartbeats 4000000 in
theorem kX8_isCrossing {l : Launch} {g : qG} (a0 : Nat) (ha0 : tyI a0) (v1 : Int32) (S : qSt) {r : Int32} (h : F8_isCrossing a0 v1 S = some r) : Met l yX8_isCrossing [.code yX8_isCrossing cX8_isCrossing 2 (some .boolean)] rmX8_isCrossing (qPc g NL qT (qmem g S) [.ref (qa g a0), .int v1]) (qQi g NL qT (qmem g S) r) 0 0 (qA g) := by
  refine q_met (by decide) (Nat.le_of_ble_eq_true rfl) (fun p e s m args below meth c C hr _ => ?_)
  have C : qC g cX8_isCrossing RX8 2 p s m meth c := C
  show qR g NL qT 2 p l e rmX8_isCrossing s m args below meth c 0 0 (MQ below (qQi g NL qT (qmem g S) r) args s 0 0 (qA g)) (qmem g S) 0 [(0, .ref (qa g a0)), (1, .int v1)] []
  unfold F8_isCrossing at h
  refine q_iload_n C 1 dX8_isCrossing_0 rfl rfl ?_
  refine q_i2l C dX8_isCrossing_1 rfl ?_
  refine q_lconst (v := 0) C dX8_isCrossing_2 (by decide) ?_
  refine q_aload_n C 0 dX8_isCrossing_3 rfl rfl ?_
  refine q_iconst (v := 0) C dX8_isCrossing_4 (by decide) ?_
  obtain ⟨hb1, h⟩ := q_if h
  refine s_iald C ha0.1 ha0.2 hb1 dX8_isCrossing_5 ?_
  refine q_iconst (v := 1) C dX8_isCrossing_6 (by decide) ?_
  refine q_isub C dX8_isCrossing_7 ?_
  refine q_i2l C dX8_isCrossing_8 rfl ?_
  refine q_callSi0 C (kX8_in v1.toInt64 0 (((S a0 (0 : Int32).toNatClampNeg) - 1).toInt64) S) lm8_65 rfl (rest := []) rfl (Nat.le_of_ble_eq_true rfl) dX8_isCrossing_9 ⟨rfl, rfl, Nat.le_of_ble_eq_true rfl, Nat.le_of_ble_eq_true rfl, Nat.le_of_ble_eq_true rfl, Nat.le_of_ble_eq_true rfl⟩ ?_
  obtain ⟨hz2, h⟩ := q_ifp h
  obtain rfl := Option.some.inj h
  exact q_zret C hr hz2 (Nat.le_refl 0) (Nat.le_refl 0) dX8_isCrossing_12
/-! ClosedStreetsModel.isStreet -/
abbrev rmX8_isStreet : Room := { frames := 1, cells := 0, slots := 0, locals := 40 }
def F8_isStreet (a0 : Nat) (v1 : Int32) (S : qSt) : Option Int32 := if qin (1 : Int32) (kd a0).2 = true then if (F8_in v1.toInt64 0 (((S a0 (1 : Int32).toNatClampNeg) - 1).toInt64) S) &&& 1 = (F8_in v1.toInt64 0 (((S a0 (1 : Int32).toNatClampNeg) - 1).toInt64) S) then some (F8_in v1.toInt64 0 (((S a0 (1 : Int32).toNatClampNeg) - 1).toInt64) S) else none else none
set_option maxRecDepth 100000 in
set_option maxHeartbeats 4000000 in
theorem kX8_isStreet {l : Launch} {g : qG} (a0 : Nat) (ha0 : tyI a0) (v1 : Int32) (S : qSt) {r : Int32} (h : F8_isStreet a0 v1 S = some r) : Met l yX8_isStreet [.code yX8_isStreet cX8_isStreet 2 (some .boolean)] rmX8_isStreet (qPc g NL qT (qmem g S) [.ref (qa g a0), .int v1]) (qQi g NL qT (qmem g S) r) 0 0 (qA g) := by
  refine q_met (by decide) (Nat.le_of_ble_eq_true rfl) (fun p e s m args below meth c C hr _ => ?_)
  have C : qC g cX8_isStreet RX8 2 p s m meth c := C
  show qR g NL qT 2 p l e rmX8_isStreet s m args below meth c 0 0 (MQ below (qQi g NL qT (qmem g S) r) args s 0 0 (qA g)) (qmem g S) 0 [(0, .ref (qa g a0)), (1, .int v1)] []
  unfold F8_isStreet at h
  refine q_iload_n C 1 dX8_isStreet_0 rfl rfl ?_
  refine q_i2l C dX8_isStreet_1 rfl ?_
  refine q_lconst (v := 0) C dX8_isStreet_2 (by decide) ?_
  refine q_aload_n C 0 dX8_isStreet_3 rfl rfl ?_
  refine q_iconst (v := 1) C dX8_isStreet_4 (by decide) ?_
  obtain ⟨hb1, h⟩ := q_if h
  refine s_iald C ha0.1 ha0.2 hb1 dX8_isStreet_5 ?_
  refine q_iconst (v := 1) C dX8_isStreet_6 (by decide) ?_
  refine q_isub C dX8_isStreet_7 ?_
  refine q_i2l C dX8_isStreet_8 rfl ?_
  refine q_callSi0 C (kX8_in v1.toInt64 0 (((S a0 (1 : Int32).toNatClampNeg) - 1).toInt64) S) lm8_65 rfl (rest := []) rfl (Nat.le_of_ble_eq_true rfl) dX8_isStreet_9 ⟨rfl, rfl, Nat.le_of_ble_eq_true rfl, Nat.le_of_ble_eq_true rfl, Nat.le_of_ble_eq_true rfl, Nat.le_of_ble_eq_true rfl⟩ ?_
  obtain ⟨hz2, h⟩ := q_ifp h
  obtain rfl := Option.some.inj h
  exact q_zret C hr hz2 (Nat.le_refl 0) (Nat.le_refl 0) dX8_isStreet_12
/-! ClosedStreetsModel.joined -/
abbrev rmX8_joined : Room := { frames := 0, cells := 0, slots := 0, locals := 0 }
def B8_joined_49 (n : Nat) (a0 : Nat) (K2 : Int32 → Int32 → Int32 → qSt → Option Int32) (v1 : Int32) (v2 : Int32) (v3 : Int32) (S : qSt) : Option Int32 := K2 v1 v2 (v3 + 1) S
set_option maxRecDepth 100000 in
set_option maxHeartbeats 4000000 in
theorem W8_joined_49 {r : Int32} (C : qC g cX8_joined RX8 4 p s m meth c) (hr : meth.sig.returnType = (some .int)) (n : Nat) (a0 : Nat) (ha0 : tyI a0) (K2 : Int32 → Int32 → Int32 → qSt → Option Int32) (hK2 : ∀ (v1 : Int32) (v2 : Int32) (v3 : Int32) (S : qSt), K2 v1 v2 v3 S = some r → qR g NL qT 4 p l e rmX8_joined s m args below meth c 0 0 (MQ below (qQi g NL qT (qmem g S) r) args s 0 0 (qA g)) (qmem g S) 2 [(0, .ref (qa g a0)), (1, .int v1), (2, .int v2), (3, .int v3)] []) (v1 : Int32) (v2 : Int32) (v3 : Int32) (S : qSt) (h : B8_joined_49 n a0 K2 v1 v2 v3 S = some r) : qR g NL qT 4 p l e rmX8_joined s m args below meth c 0 0 (MQ below (qQi g NL qT (qmem g S) r) args s 0 0 (qA g)) (qmem g S) 49 [(0, .ref (qa g a0)), (1, .int v1), (2, .int v2), (3, .int v3)] [] := by
  unfold B8_joined_49 at h
  refine q_iinc C 3 (v := v3 + 1) (lv' := [(3, .int (v3 + 1)), (0, .ref (qa g a0)), (1, .int v1), (2, .int v2)]) dX8_joined_49 rfl rfl (by decide) rfl ?_
  refine q_norm [1, 2, 3, 0] rfl ?_
  refine q_goto (tgt := 2) C dX8_joined_52 (by decide) ?_
  exact hK2 v1 v2 (v3 + 1) S h
def B8_joined_28 (n : Nat) (a0 : Nat) (K2 : Int32 → Int32 → Int32 → qSt → Option Int32) (v1 : Int32) (v2 : Int32) (v3 : Int32) (S : qSt) : Option Int32 := if qin (4 + v3) (kd a0).2 = true then if ¬ (S a0 (4 + v3).toNatClampNeg) = v2 then (B8_joined_49 n a0 K2 v1 v2 v3 S) else (if qin (24 + v3) (kd a0).2 = true then if ¬ (S a0 (24 + v3).toNatClampNeg) = v1 then (B8_joined_49 n a0 K2 v1 v2 v3 S) else (some v3) else none) else none
set_option maxRecDepth 100000 in
set_option maxHeartbeats 4000000 in
theorem W8_joined_28 {r : Int32} (C : qC g cX8_joined RX8 4 p s m meth c) (hr : meth.sig.returnType = (some .int)) (n : Nat) (a0 : Nat) (ha0 : tyI a0) (K2 : Int32 → Int32 → Int32 → qSt → Option Int32) (hK2 : ∀ (v1 : Int32) (v2 : Int32) (v3 : Int32) (S : qSt), K2 v1 v2 v3 S = some r → qR g NL qT 4 p l e rmX8_joined s m args below meth c 0 0 (MQ below (qQi g NL qT (qmem g S) r) args s 0 0 (qA g)) (qmem g S) 2 [(0, .ref (qa g a0)), (1, .int v1), (2, .int v2), (3, .int v3)] []) (v1 : Int32) (v2 : Int32) (v3 : Int32) (S : qSt) (h : B8_joined_28 n a0 K2 v1 v2 v3 S = some r) : qR g NL qT 4 p l e rmX8_joined s m args below meth c 0 0 (MQ below (qQi g NL qT (qmem g S) r) args s 0 0 (qA g)) (qmem g S) 28 [(0, .ref (qa g a0)), (1, .int v1), (2, .int v2), (3, .int v3)] [] := by
  unfold B8_joined_28 at h
  refine q_aload_n C 0 dX8_joined_28 rfl rfl ?_
  refine q_iconst (v := 4) C dX8_joined_29 (by decide) ?_
  refine q_iload_n C 3 dX8_joined_30 rfl rfl ?_
  refine q_iadd C dX8_joined_31 ?_
  obtain ⟨hb3, h⟩ := q_if h
  refine s_iald C ha0.1 ha0.2 hb3 dX8_joined_32 ?_
  refine q_iload_n C 2 dX8_joined_33 rfl rfl ?_
  refine q_icmp_ne (tgt := 49) C h dX8_joined_34 (by decide) (fun h => ?_) (fun h => ?_)
  · exact W8_joined_49 C hr n a0 ha0 K2 hK2 v1 v2 v3 S h
  · refine q_aload_n C 0 dX8_joined_37 rfl rfl ?_
    refine q_bipush (v := 24) C dX8_joined_38 (by decide) ?_
    refine q_iload_n C 3 dX8_joined_40 rfl rfl ?_
    refine q_iadd C dX8_joined_41 ?_
    obtain ⟨hb4, h⟩ := q_if h
    refine s_iald C ha0.1 ha0.2 hb4 dX8_joined_42 ?_
    refine q_iload_n C 1 dX8_joined_43 rfl rfl ?_
    refine q_icmp_ne (tgt := 49) C h dX8_joined_44 (by decide) (fun h => ?_) (fun h => ?_)
    · exact W8_joined_49 C hr n a0 ha0 K2 hK2 v1 v2 v3 S h
    · refine q_iload_n C 3 dX8_joined_47 rfl rfl ?_
      obtain rfl := Option.some.inj h
      exact q_iret C hr (Nat.le_refl 0) (Nat.le_refl 0) dX8_joined_48
def B8_joined_2 (n : Nat) (a0 : Nat) : Nat → Int32 → Int32 → Int32 → qSt → Option Int32
  | 0, _, _, _, _ => none
  | n9 + 1, v1, v2, v3, S => if qin (1 : Int32) (kd a0).2 = true then if (S a0 (1 : Int32).toNatClampNeg) ≤ v3 then (some (-999)) else (if qin (4 + v3) (kd a0).2 = true then if ¬ (S a0 (4 + v3).toNatClampNeg) = v1 then (B8_joined_28 n a0 (B8_joined_2 n a0 n9) v1 v2 v3 S) else (if qin (24 + v3) (kd a0).2 = true then if (S a0 (24 + v3).toNatClampNeg) = v2 then (some v3) else (B8_joined_28 n a0 (B8_joined_2 n a0 n9) v1 v2 v3 S) else none) else none) else none
set_option maxRecDepth 100000 in
set_option maxHeartbeats 4000000 in
theorem W8_joined_2 {r : Int32} (C : qC g cX8_joined RX8 4 p s m meth c) (hr : meth.sig.returnType = (some .int)) (n : Nat) (a0 : Nat) (ha0 : tyI a0) : ∀ (n9 : Nat) (v1 : Int32) (v2 : Int32) (v3 : Int32) (S : qSt), B8_joined_2 n a0 n9 v1 v2 v3 S = some r → qR g NL qT 4 p l e rmX8_joined s m args below meth c 0 0 (MQ below (qQi g NL qT (qmem g S) r) args s 0 0 (qA g)) (qmem g S) 2 [(0, .ref (qa g a0)), (1, .int v1), (2, .int v2), (3, .int v3)] [] := by
  intro n9
  induction n9 with
  | zero =>
    intro v1 v2 v3 S h
    have h9 : (none : Option Int32) = some r := h
    cases h9
  | succ n9 ih =>
    intro v1 v2 v3 S h
    rw [B8_joined_2] at h
    refine q_iload_n C 3 dX8_joined_2 rfl rfl ?_
    refine q_aload_n C 0 dX8_joined_3 rfl rfl ?_
    refine q_iconst (v := 1) C dX8_joined_4 (by decide) ?_
    obtain ⟨hb1, h⟩ := q_if h
    refine s_iald C ha0.1 ha0.2 hb1 dX8_joined_5 ?_
    refine q_icmp_ge (tgt := 55) C h dX8_joined_6 (by decide) (fun h => ?_) (fun h => ?_)
    · refine q_sipush (v := (-999)) C dX8_joined_55 (by decide) ?_
      obtain rfl := Option.some.inj h
      exact q_iret C hr (Nat.le_refl 0) (Nat.le_refl 0) dX8_joined_58
    · refine q_aload_n C 0 dX8_joined_9 rfl rfl ?_
      refine q_iconst (v := 4) C dX8_joined_10 (by decide) ?_
      refine q_iload_n C 3 dX8_joined_11 rfl rfl ?_
      refine q_iadd C dX8_joined_12 ?_
      obtain ⟨hb2, h⟩ := q_if h
      refine s_iald C ha0.1 ha0.2 hb2 dX8_joined_13 ?_
      refine q_iload_n C 1 dX8_joined_14 rfl rfl ?_
      refine q_icmp_ne (tgt := 28) C h dX8_joined_15 (by decide) (fun h => ?_) (fun h => ?_)
      · exact W8_joined_28 C hr n a0 ha0 (B8_joined_2 n a0 n9) ih v1 v2 v3 S h
      · refine q_aload_n C 0 dX8_joined_18 rfl rfl ?_
        refine q_bipush (v := 24) C dX8_joined_19 (by decide) ?_
        refine q_iload_n C 3 dX8_joined_21 rfl rfl ?_
        refine q_iadd C dX8_joined_22 ?_
        obtain ⟨hb5, h⟩ := q_if h
        refine s_iald C ha0.1 ha0.2 hb5 dX8_joined_23 ?_
        refine q_iload_n C 2 dX8_joined_24 rfl rfl ?_
        refine q_icmp_eq (tgt := 47) C h dX8_joined_25 (by decide) (fun h => ?_) (fun h => ?_)
        · refine q_iload_n C 3 dX8_joined_47 rfl rfl ?_
          obtain rfl := Option.some.inj h
          exact q_iret C hr (Nat.le_refl 0) (Nat.le_refl 0) dX8_joined_48
        · exact W8_joined_28 C hr n a0 ha0 (B8_joined_2 n a0 n9) ih v1 v2 v3 S h
def F8_joined (n : Nat) (a0 : Nat) (v1 : Int32) (v2 : Int32) (S : qSt) : Option Int32 := B8_joined_2 n a0 n v1 v2 0 S
set_option maxRecDepth 100000 in
set_option maxHeartbeats 4000000 in
theorem kX8_joined {l : Launch} {g : qG} (n : Nat) (a0 : Nat) (ha0 : tyI a0) (v1 : Int32) (v2 : Int32) (S : qSt) {r : Int32} (h : F8_joined n a0 v1 v2 S = some r) : Met l yX8_joined [.code yX8_joined cX8_joined 4 (some .int)] rmX8_joined (qPc g NL qT (qmem g S) [.ref (qa g a0), .int v1, .int v2]) (qQi g NL qT (qmem g S) r) 0 0 (qA g) := by
  refine q_met (by decide) (Nat.le_of_ble_eq_true rfl) (fun p e s m args below meth c C hr _ => ?_)
  have C : qC g cX8_joined RX8 4 p s m meth c := C
  show qR g NL qT 4 p l e rmX8_joined s m args below meth c 0 0 (MQ below (qQi g NL qT (qmem g S) r) args s 0 0 (qA g)) (qmem g S) 0 [(0, .ref (qa g a0)), (1, .int v1), (2, .int v2)] []
  unfold F8_joined at h
  refine q_iconst (v := 0) C dX8_joined_0 (by decide) ?_
  refine q_istore_n C (lv' := [(3, .int 0), (0, .ref (qa g a0)), (1, .int v1), (2, .int v2)]) dX8_joined_1 rfl (by decide) rfl ?_
  refine q_norm [1, 2, 3, 0] rfl ?_
  exact W8_joined_2 C hr n a0 ha0 n v1 v2 0 S h
/-! ClosedStreetsModel.streetsAt -/
abbrev rmX8_streetsAt : Room := { frames := 0, cells := 0, slots := 0, locals := 0 }
def B8_streetsAt_66 (n : Nat) (a0 : Nat) (K5 : Int32 → Int32 → Int32 → Int32 → qSt → Option Int32) (v1 : Int32) (v2 : Int32) (v4 : Int32) (t0 : Int32) (t1 : Int32) (S : qSt) : Option Int32 := K5 v1 v2 (t0 + t1) (v4 + 1) S
set_option maxRecDepth 100000 in
set_option maxHeartbeats 4000000 in
theorem W8_streetsAt_66 {r : Int32} (C : qC g cX8_streetsAt RX8 6 p s m meth c) (hr : meth.sig.returnType = (some .int)) (n : Nat) (a0 : Nat) (ha0 : tyI a0) (K5 : Int32 → Int32 → Int32 → Int32 → qSt → Option Int32) (hK5 : ∀ (v1 : Int32) (v2 : Int32) (v3 : Int32) (v4 : Int32) (S : qSt), K5 v1 v2 v3 v4 S = some r → qR g NL qT 6 p l e rmX8_streetsAt s m args below meth c 0 0 (MQ below (qQi g NL qT (qmem g S) r) args s 0 0 (qA g)) (qmem g S) 5 [(0, .ref (qa g a0)), (1, .int v1), (2, .int v2), (3, .int v3), (4, .int v4)] []) (v1 : Int32) (v2 : Int32) (v4 : Int32) (t0 : Int32) (t1 : Int32) (S : qSt) (h : B8_streetsAt_66 n a0 K5 v1 v2 v4 t0 t1 S = some r) : qR g NL qT 6 p l e rmX8_streetsAt s m args below meth c 0 0 (MQ below (qQi g NL qT (qmem g S) r) args s 0 0 (qA g)) (qmem g S) 66 [(0, .ref (qa g a0)), (1, .int v1), (2, .int v2), (4, .int v4)] [.int t1, .int t0] := by
  unfold B8_streetsAt_66 at h
  refine q_iadd C dX8_streetsAt_66 ?_
  refine q_istore_n C (lv' := [(3, .int (t0 + t1)), (0, .ref (qa g a0)), (1, .int v1), (2, .int v2), (4, .int v4)]) dX8_streetsAt_67 rfl (by decide) rfl ?_
  refine q_norm [1, 2, 3, 0, 4] rfl ?_
  refine q_iinc C 4 (v := v4 + 1) (lv' := [(4, .int (v4 + 1)), (0, .ref (qa g a0)), (1, .int v1), (2, .int v2), (3, .int (t0 + t1))]) dX8_streetsAt_68 rfl rfl (by decide) rfl ?_
  refine q_norm [1, 2, 3, 4, 0] rfl ?_
  refine q_goto (tgt := 5) C dX8_streetsAt_71 (by decide) ?_
  exact hK5 v1 v2 (t0 + t1) (v4 + 1) S h
def B8_streetsAt_65 (n : Nat) (a0 : Nat) (K5 : Int32 → Int32 → Int32 → Int32 → qSt → Option Int32) (v1 : Int32) (v2 : Int32) (v4 : Int32) (t0 : Int32) (S : qSt) : Option Int32 := B8_streetsAt_66 n a0 K5 v1 v2 v4 t0 0 S
set_option maxRecDepth 100000 in
set_option maxHeartbeats 4000000 in
theorem W8_streetsAt_65 {r : Int32} (C : qC g cX8_streetsAt RX8 6 p s m meth c) (hr : meth.sig.returnType = (some .int)) (n : Nat) (a0 : Nat) (ha0 : tyI a0) (K5 : Int32 → Int32 → Int32 → Int32 → qSt → Option Int32) (hK5 : ∀ (v1 : Int32) (v2 : Int32) (v3 : Int32) (v4 : Int32) (S : qSt), K5 v1 v2 v3 v4 S = some r → qR g NL qT 6 p l e rmX8_streetsAt s m args below meth c 0 0 (MQ below (qQi g NL qT (qmem g S) r) args s 0 0 (qA g)) (qmem g S) 5 [(0, .ref (qa g a0)), (1, .int v1), (2, .int v2), (3, .int v3), (4, .int v4)] []) (v1 : Int32) (v2 : Int32) (v4 : Int32) (t0 : Int32) (S : qSt) (h : B8_streetsAt_65 n a0 K5 v1 v2 v4 t0 S = some r) : qR g NL qT 6 p l e rmX8_streetsAt s m args below meth c 0 0 (MQ below (qQi g NL qT (qmem g S) r) args s 0 0 (qA g)) (qmem g S) 65 [(0, .ref (qa g a0)), (1, .int v1), (2, .int v2), (4, .int v4)] [.int t0] := by
  unfold B8_streetsAt_65 at h
  refine q_iconst (v := 0) C dX8_streetsAt_65 (by decide) ?_
  exact W8_streetsAt_66 C hr n a0 ha0 K5 hK5 v1 v2 v4 t0 0 S h
def B8_streetsAt_61 (n : Nat) (a0 : Nat) (K5 : Int32 → Int32 → Int32 → Int32 → qSt → Option Int32) (v1 : Int32) (v2 : Int32) (v4 : Int32) (t0 : Int32) (S : qSt) : Option Int32 := B8_streetsAt_66 n a0 K5 v1 v2 v4 t0 1 S
set_option maxRecDepth 100000 in
set_option maxHeartbeats 4000000 in
theorem W8_streetsAt_61 {r : Int32} (C : qC g cX8_streetsAt RX8 6 p s m meth c) (hr : meth.sig.returnType = (some .int)) (n : Nat) (a0 : Nat) (ha0 : tyI a0) (K5 : Int32 → Int32 → Int32 → Int32 → qSt → Option Int32) (hK5 : ∀ (v1 : Int32) (v2 : Int32) (v3 : Int32) (v4 : Int32) (S : qSt), K5 v1 v2 v3 v4 S = some r → qR g NL qT 6 p l e rmX8_streetsAt s m args below meth c 0 0 (MQ below (qQi g NL qT (qmem g S) r) args s 0 0 (qA g)) (qmem g S) 5 [(0, .ref (qa g a0)), (1, .int v1), (2, .int v2), (3, .int v3), (4, .int v4)] []) (v1 : Int32) (v2 : Int32) (v4 : Int32) (t0 : Int32) (S : qSt) (h : B8_streetsAt_61 n a0 K5 v1 v2 v4 t0 S = some r) : qR g NL qT 6 p l e rmX8_streetsAt s m args below meth c 0 0 (MQ below (qQi g NL qT (qmem g S) r) args s 0 0 (qA g)) (qmem g S) 61 [(0, .ref (qa g a0)), (1, .int v1), (2, .int v2), (4, .int v4)] [.int t0] := by
  unfold B8_streetsAt_61 at h
  refine q_iconst (v := 1) C dX8_streetsAt_61 (by decide) ?_
  refine q_goto (tgt := 66) C dX8_streetsAt_62 (by decide) ?_
  exact W8_streetsAt_66 C hr n a0 ha0 K5 hK5 v1 v2 v4 t0 1 S h
def B8_streetsAt_39 (n : Nat) (a0 : Nat) (K5 : Int32 → Int32 → Int32 → Int32 → qSt → Option Int32) (v1 : Int32) (v2 : Int32) (v3 : Int32) (v4 : Int32) (t0 : Int32) (S : qSt) : Option Int32 := if t0 = 0 then (B8_streetsAt_65 n a0 K5 v1 v2 v4 v3 S) else (if v2 = 0 then (B8_streetsAt_61 n a0 K5 v1 v2 v4 v3 S) else (if qin (64 + v4) (kd a0).2 = true then if ¬ (S a0 (64 + v4).toNatClampNeg) = 0 then (B8_streetsAt_65 n a0 K5 v1 v2 v4 v3 S) else (B8_streetsAt_61 n a0 K5 v1 v2 v4 v3 S) else none))
set_option maxRecDepth 100000 in
set_option maxHeartbeats 4000000 in
theorem W8_streetsAt_39 {r : Int32} (C : qC g cX8_streetsAt RX8 6 p s m meth c) (hr : meth.sig.returnType = (some .int)) (n : Nat) (a0 : Nat) (ha0 : tyI a0) (K5 : Int32 → Int32 → Int32 → Int32 → qSt → Option Int32) (hK5 : ∀ (v1 : Int32) (v2 : Int32) (v3 : Int32) (v4 : Int32) (S : qSt), K5 v1 v2 v3 v4 S = some r → qR g NL qT 6 p l e rmX8_streetsAt s m args below meth c 0 0 (MQ below (qQi g NL qT (qmem g S) r) args s 0 0 (qA g)) (qmem g S) 5 [(0, .ref (qa g a0)), (1, .int v1), (2, .int v2), (3, .int v3), (4, .int v4)] []) (v1 : Int32) (v2 : Int32) (v3 : Int32) (v4 : Int32) (t0 : Int32) (S : qSt) (h : B8_streetsAt_39 n a0 K5 v1 v2 v3 v4 t0 S = some r) : qR g NL qT 6 p l e rmX8_streetsAt s m args below meth c 0 0 (MQ below (qQi g NL qT (qmem g S) r) args s 0 0 (qA g)) (qmem g S) 39 [(0, .ref (qa g a0)), (1, .int v1), (2, .int v2), (3, .int v3), (4, .int v4)] [.int t0] := by
  unfold B8_streetsAt_39 at h
  refine q_istore C (lv' := [(5, .int t0), (0, .ref (qa g a0)), (1, .int v1), (2, .int v2), (3, .int v3), (4, .int v4)]) dX8_streetsAt_39 (by decide) rfl ?_
  refine q_norm [1, 2, 3, 4, 5, 0] rfl ?_
  refine q_iload_n C 3 dX8_streetsAt_41 rfl rfl ?_
  refine q_iload C 5 dX8_streetsAt_42 rfl ?_
  refine q_if_eq (tgt := 65) C h dX8_streetsAt_44 (by decide) (fun h => ?_) (fun h => ?_)
  · refine q_norm [0, 1, 2, 4] rfl ?_
    exact W8_streetsAt_65 C hr n a0 ha0 K5 hK5 v1 v2 v4 v3 S h
  · refine q_iload_n C 2 dX8_streetsAt_47 rfl rfl ?_
    refine q_if_eq (tgt := 61) C h dX8_streetsAt_48 (by decide) (fun h => ?_) (fun h => ?_)
    · refine q_norm [0, 1, 2, 4] rfl ?_
      exact W8_streetsAt_61 C hr n a0 ha0 K5 hK5 v1 v2 v4 v3 S h
    · refine q_aload_n C 0 dX8_streetsAt_51 rfl rfl ?_
      refine q_bipush (v := 64) C dX8_streetsAt_52 (by decide) ?_
      refine q_iload C 4 dX8_streetsAt_54 rfl ?_
      refine q_iadd C dX8_streetsAt_56 ?_
      obtain ⟨hb3, h⟩ := q_if h
      refine s_iald C ha0.1 ha0.2 hb3 dX8_streetsAt_57 ?_
      refine q_if_ne (tgt := 65) C h dX8_streetsAt_58 (by decide) (fun h => ?_) (fun h => ?_)
      · refine q_norm [0, 1, 2, 4] rfl ?_
        exact W8_streetsAt_65 C hr n a0 ha0 K5 hK5 v1 v2 v4 v3 S h
      · refine q_norm [0, 1, 2, 4] rfl ?_
        exact W8_streetsAt_61 C hr n a0 ha0 K5 hK5 v1 v2 v4 v3 S h
def B8_streetsAt_34 (n : Nat) (a0 : Nat) (K5 : Int32 → Int32 → Int32 → Int32 → qSt → Option Int32) (v1 : Int32) (v2 : Int32) (v3 : Int32) (v4 : Int32) (S : qSt) : Option Int32 := B8_streetsAt_39 n a0 K5 v1 v2 v3 v4 1 S
set_option maxRecDepth 100000 in
set_option maxHeartbeats 4000000 in
theorem W8_streetsAt_34 {r : Int32} (C : qC g cX8_streetsAt RX8 6 p s m meth c) (hr : meth.sig.returnType = (some .int)) (n : Nat) (a0 : Nat) (ha0 : tyI a0) (K5 : Int32 → Int32 → Int32 → Int32 → qSt → Option Int32) (hK5 : ∀ (v1 : Int32) (v2 : Int32) (v3 : Int32) (v4 : Int32) (S : qSt), K5 v1 v2 v3 v4 S = some r → qR g NL qT 6 p l e rmX8_streetsAt s m args below meth c 0 0 (MQ below (qQi g NL qT (qmem g S) r) args s 0 0 (qA g)) (qmem g S) 5 [(0, .ref (qa g a0)), (1, .int v1), (2, .int v2), (3, .int v3), (4, .int v4)] []) (v1 : Int32) (v2 : Int32) (v3 : Int32) (v4 : Int32) (S : qSt) (h : B8_streetsAt_34 n a0 K5 v1 v2 v3 v4 S = some r) : qR g NL qT 6 p l e rmX8_streetsAt s m args below meth c 0 0 (MQ below (qQi g NL qT (qmem g S) r) args s 0 0 (qA g)) (qmem g S) 34 [(0, .ref (qa g a0)), (1, .int v1), (2, .int v2), (3, .int v3), (4, .int v4)] [] := by
  unfold B8_streetsAt_34 at h
  refine q_iconst (v := 1) C dX8_streetsAt_34 (by decide) ?_
  refine q_goto (tgt := 39) C dX8_streetsAt_35 (by decide) ?_
  exact W8_streetsAt_39 C hr n a0 ha0 K5 hK5 v1 v2 v3 v4 1 S h
def B8_streetsAt_5 (n : Nat) (a0 : Nat) : Nat → Int32 → Int32 → Int32 → Int32 → qSt → Option Int32
  | 0, _, _, _, _, _ => none
  | n9 + 1, v1, v2, v3, v4, S => if qin (1 : Int32) (kd a0).2 = true then if (S a0 (1 : Int32).toNatClampNeg) ≤ v4 then (some v3) else (if qin (4 + v4) (kd a0).2 = true then if (S a0 (4 + v4).toNatClampNeg) = v1 then (B8_streetsAt_34 n a0 (B8_streetsAt_5 n a0 n9) v1 v2 v3 v4 S) else (if qin (24 + v4) (kd a0).2 = true then if ¬ (S a0 (24 + v4).toNatClampNeg) = v1 then (B8_streetsAt_39 n a0 (B8_streetsAt_5 n a0 n9) v1 v2 v3 v4 0 S) else (B8_streetsAt_34 n a0 (B8_streetsAt_5 n a0 n9) v1 v2 v3 v4 S) else none) else none) else none
set_option maxRecDepth 100000 in
set_option maxHeartbeats 4000000 in
theorem W8_streetsAt_5 {r : Int32} (C : qC g cX8_streetsAt RX8 6 p s m meth c) (hr : meth.sig.returnType = (some .int)) (n : Nat) (a0 : Nat) (ha0 : tyI a0) : ∀ (n9 : Nat) (v1 : Int32) (v2 : Int32) (v3 : Int32) (v4 : Int32) (S : qSt), B8_streetsAt_5 n a0 n9 v1 v2 v3 v4 S = some r → qR g NL qT 6 p l e rmX8_streetsAt s m args below meth c 0 0 (MQ below (qQi g NL qT (qmem g S) r) args s 0 0 (qA g)) (qmem g S) 5 [(0, .ref (qa g a0)), (1, .int v1), (2, .int v2), (3, .int v3), (4, .int v4)] [] := by
  intro n9
  induction n9 with
  | zero =>
    intro v1 v2 v3 v4 S h
    have h9 : (none : Option Int32) = some r := h
    cases h9
  | succ n9 ih =>
    intro v1 v2 v3 v4 S h
    rw [B8_streetsAt_5] at h
    refine q_iload C 4 dX8_streetsAt_5 rfl ?_
    refine q_aload_n C 0 dX8_streetsAt_7 rfl rfl ?_
    refine q_iconst (v := 1) C dX8_streetsAt_8 (by decide) ?_
    obtain ⟨hb1, h⟩ := q_if h
    refine s_iald C ha0.1 ha0.2 hb1 dX8_streetsAt_9 ?_
    refine q_icmp_ge (tgt := 74) C h dX8_streetsAt_10 (by decide) (fun h => ?_) (fun h => ?_)
    · refine q_iload_n C 3 dX8_streetsAt_74 rfl rfl ?_
      obtain rfl := Option.some.inj h
      exact q_iret C hr (Nat.le_refl 0) (Nat.le_refl 0) dX8_streetsAt_75
    · refine q_aload_n C 0 dX8_streetsAt_13 rfl rfl ?_
      refine q_iconst (v := 4) C dX8_streetsAt_14 (by decide) ?_
      refine q_iload C 4 dX8_streetsAt_15 rfl ?_
      refine q_iadd C dX8_streetsAt_17 ?_
      obtain ⟨hb2, h⟩ := q_if h
      refine s_iald C ha0.1 ha0.2 hb2 dX8_streetsAt_18 ?_
      refine q_iload_n C 1 dX8_streetsAt_19 rfl rfl ?_
      refine q_icmp_eq (tgt := 34) C h dX8_streetsAt_20 (by decide) (fun h => ?_) (fun h => ?_)
      · exact W8_streetsAt_34 C hr n a0 ha0 (B8_streetsAt_5 n a0 n9) ih v1 v2 v3 v4 S h
      · refine q_aload_n C 0 dX8_streetsAt_23 rfl rfl ?_
        refine q_bipush (v := 24) C dX8_streetsAt_24 (by decide) ?_
        refine q_iload C 4 dX8_streetsAt_26 rfl ?_
        refine q_iadd C dX8_streetsAt_28 ?_
        obtain ⟨hb4, h⟩ := q_if h
        refine s_iald C ha0.1 ha0.2 hb4 dX8_streetsAt_29 ?_
        refine q_iload_n C 1 dX8_streetsAt_30 rfl rfl ?_
        refine q_icmp_ne (tgt := 38) C h dX8_streetsAt_31 (by decide) (fun h => ?_) (fun h => ?_)
        · refine q_iconst (v := 0) C dX8_streetsAt_38 (by decide) ?_
          exact W8_streetsAt_39 C hr n a0 ha0 (B8_streetsAt_5 n a0 n9) ih v1 v2 v3 v4 0 S h
        · exact W8_streetsAt_34 C hr n a0 ha0 (B8_streetsAt_5 n a0 n9) ih v1 v2 v3 v4 S h
def F8_streetsAt (n : Nat) (a0 : Nat) (v1 : Int32) (v2 : Int32) (S : qSt) : Option Int32 := B8_streetsAt_5 n a0 n v1 v2 0 0 S
set_option maxRecDepth 100000 in
set_option maxHeartbeats 4000000 in
theorem kX8_streetsAt {l : Launch} {g : qG} (n : Nat) (a0 : Nat) (ha0 : tyI a0) (v1 : Int32) (v2 : Int32) (S : qSt) {r : Int32} (h : F8_streetsAt n a0 v1 v2 S = some r) : Met l yX8_streetsAt [.code yX8_streetsAt cX8_streetsAt 6 (some .int)] rmX8_streetsAt (qPc g NL qT (qmem g S) [.ref (qa g a0), .int v1, .int v2]) (qQi g NL qT (qmem g S) r) 0 0 (qA g) := by
  refine q_met (by decide) (Nat.le_of_ble_eq_true rfl) (fun p e s m args below meth c C hr _ => ?_)
  have C : qC g cX8_streetsAt RX8 6 p s m meth c := C
  show qR g NL qT 6 p l e rmX8_streetsAt s m args below meth c 0 0 (MQ below (qQi g NL qT (qmem g S) r) args s 0 0 (qA g)) (qmem g S) 0 [(0, .ref (qa g a0)), (1, .int v1), (2, .int v2)] []
  unfold F8_streetsAt at h
  refine q_iconst (v := 0) C dX8_streetsAt_0 (by decide) ?_
  refine q_istore_n C (lv' := [(3, .int 0), (0, .ref (qa g a0)), (1, .int v1), (2, .int v2)]) dX8_streetsAt_1 rfl (by decide) rfl ?_
  refine q_norm [1, 2, 3, 0] rfl ?_
  refine q_iconst (v := 0) C dX8_streetsAt_2 (by decide) ?_
  refine q_istore C (lv' := [(4, .int 0), (0, .ref (qa g a0)), (1, .int v1), (2, .int v2), (3, .int 0)]) dX8_streetsAt_3 (by decide) rfl ?_
  refine q_norm [1, 2, 3, 4, 0] rfl ?_
  exact W8_streetsAt_5 C hr n a0 ha0 n v1 v2 0 0 S h
/-! ClosedStreetsModel.build -/
abbrev rmX8_build : Room := { frames := 0, cells := 0, slots := 0, locals := 0 }
def F8_build (a0 : Nat) (v1 : Int32) (v2 : Int32) (v3 : Int32) (S : qSt) : Option (Int32 × qSt) := if qin (1 : Int32) (kd a0).2 = true then if qin (4 + (S a0 (1 : Int32).toNatClampNeg)) (kd a0).2 = true then obs (qup S a0 (4 + (S a0 (1 : Int32).toNatClampNeg)).toNatClampNeg v1) fun S3 => if qin (24 + (S a0 (1 : Int32).toNatClampNeg)) (kd a0).2 = true then obs (qup S3 a0 (24 + (S a0 (1 : Int32).toNatClampNeg)).toNatClampNeg v2) fun S5 => if qin (44 + (S a0 (1 : Int32).toNatClampNeg)) (kd a0).2 = true then obs (qup S5 a0 (44 + (S a0 (1 : Int32).toNatClampNeg)).toNatClampNeg v3) fun S7 => if qin (64 + (S a0 (1 : Int32).toNatClampNeg)) (kd a0).2 = true then obs (qup S7 a0 (64 + (S a0 (1 : Int32).toNatClampNeg)).toNatClampNeg (0 : Int32)) fun S9 => obs (qup S9 a0 (1 : Int32).toNatClampNeg ((S9 a0 (1 : Int32).toNatClampNeg) + 1)) fun S10 => some (S a0 (1 : Int32).toNatClampNeg, S10) else none else none else none else none else none
set_option maxRecDepth 100000 in
set_option maxHeartbeats 4000000 in
theorem kX8_build {l : Launch} {g : qG} (a0 : Nat) (ha0 : tyI a0) (v1 : Int32) (v2 : Int32) (v3 : Int32) (S : qSt) {r : Int32} {S2 : qSt} (h : F8_build a0 v1 v2 v3 S = some (r, S2)) : Met l yX8_build [.code yX8_build cX8_build 5 (some .int)] rmX8_build (qPc g NL qT (qmem g S) [.ref (qa g a0), .int v1, .int v2, .int v3]) (qQi g NL qT (qmem g S2) r) 0 0 (qA g) := by
  refine q_met (by decide) (Nat.le_of_ble_eq_true rfl) (fun p e s m args below meth c C hr _ => ?_)
  have C : qC g cX8_build RX8 5 p s m meth c := C
  show qR g NL qT 5 p l e rmX8_build s m args below meth c 0 0 (MQ below (qQi g NL qT (qmem g S2) r) args s 0 0 (qA g)) (qmem g S) 0 [(0, .ref (qa g a0)), (1, .int v1), (2, .int v2), (3, .int v3)] []
  unfold F8_build at h
  refine q_aload_n C 0 dX8_build_0 rfl rfl ?_
  refine q_iconst (v := 1) C dX8_build_1 (by decide) ?_
  obtain ⟨hb1, h⟩ := q_if h
  refine s_iald C ha0.1 ha0.2 hb1 dX8_build_2 ?_
  refine q_istore C (lv' := [(4, .int (S a0 (1 : Int32).toNatClampNeg)), (0, .ref (qa g a0)), (1, .int v1), (2, .int v2), (3, .int v3)]) dX8_build_3 (by decide) rfl ?_
  refine q_norm [1, 2, 3, 4, 0] rfl ?_
  refine q_aload_n C 0 dX8_build_5 rfl rfl ?_
  refine q_iconst (v := 4) C dX8_build_6 (by decide) ?_
  refine q_iload C 4 dX8_build_7 rfl ?_
  refine q_iadd C dX8_build_9 ?_
  refine q_iload_n C 1 dX8_build_10 rfl rfl ?_
  obtain ⟨hb2, h⟩ := q_if h
  obtain ⟨S3, hS3, h⟩ := obs_e h
  refine s_iast C ha0.1 ha0.2 hb2 dX8_build_11 ?_
  rw [← hS3]
  refine q_aload_n C 0 dX8_build_12 rfl rfl ?_
  refine q_bipush (v := 24) C dX8_build_13 (by decide) ?_
  refine q_iload C 4 dX8_build_15 rfl ?_
  refine q_iadd C dX8_build_17 ?_
  refine q_iload_n C 2 dX8_build_18 rfl rfl ?_
  obtain ⟨hb4, h⟩ := q_if h
  obtain ⟨S5, hS5, h⟩ := obs_e h
  refine s_iast C ha0.1 ha0.2 hb4 dX8_build_19 ?_
  rw [← hS5]
  refine q_aload_n C 0 dX8_build_20 rfl rfl ?_
  refine q_bipush (v := 44) C dX8_build_21 (by decide) ?_
  refine q_iload C 4 dX8_build_23 rfl ?_
  refine q_iadd C dX8_build_25 ?_
  refine q_iload_n C 3 dX8_build_26 rfl rfl ?_
  obtain ⟨hb6, h⟩ := q_if h
  obtain ⟨S7, hS7, h⟩ := obs_e h
  refine s_iast C ha0.1 ha0.2 hb6 dX8_build_27 ?_
  rw [← hS7]
  refine q_aload_n C 0 dX8_build_28 rfl rfl ?_
  refine q_bipush (v := 64) C dX8_build_29 (by decide) ?_
  refine q_iload C 4 dX8_build_31 rfl ?_
  refine q_iadd C dX8_build_33 ?_
  refine q_iconst (v := 0) C dX8_build_34 (by decide) ?_
  obtain ⟨hb8, h⟩ := q_if h
  obtain ⟨S9, hS9, h⟩ := obs_e h
  refine s_iast C ha0.1 ha0.2 hb8 dX8_build_35 ?_
  rw [← hS9]
  refine q_aload_n C 0 dX8_build_36 rfl rfl ?_
  refine q_iconst (v := 1) C dX8_build_37 (by decide) ?_
  refine q_dup2 C dX8_build_38 rfl rfl ?_
  refine s_iald C ha0.1 ha0.2 hb1 dX8_build_39 ?_
  refine q_iconst (v := 1) C dX8_build_40 (by decide) ?_
  refine q_iadd C dX8_build_41 ?_
  obtain ⟨S10, hS10, h⟩ := obs_e h
  refine s_iast C ha0.1 ha0.2 hb1 dX8_build_42 ?_
  rw [← hS10]
  refine q_iload C 4 dX8_build_43 rfl ?_
  obtain ⟨rfl, rfl⟩ := Prod.mk.inj (Option.some.inj h)
  exact q_iret C hr (Nat.le_refl 0) (Nat.le_refl 0) dX8_build_45
/-! ClosedStreetsModel.tearDown -/
abbrev rmX8_tearDown : Room := { frames := 0, cells := 0, slots := 0, locals := 0 }
def B8_tearDown_9 (n : Nat) (a0 : Nat) : Nat → Int32 → qSt → Option qSt
  | 0, _, _ => none
  | n9 + 1, v2, S => if qin (1 : Int32) (kd a0).2 = true then if (S a0 (1 : Int32).toNatClampNeg) ≤ v2 then (some S) else (if qin ((4 + v2) + 1) (kd a0).2 = true then if qin (4 + v2) (kd a0).2 = true then obs (qup S a0 (4 + v2).toNatClampNeg (S a0 ((4 + v2) + 1).toNatClampNeg)) fun S6 => if qin ((24 + v2) + 1) (kd a0).2 = true then if qin (24 + v2) (kd a0).2 = true then obs (qup S6 a0 (24 + v2).toNatClampNeg (S6 a0 ((24 + v2) + 1).toNatClampNeg)) fun S9 => if qin ((44 + v2) + 1) (kd a0).2 = true then if qin (44 + v2) (kd a0).2 = true then obs (qup S9 a0 (44 + v2).toNatClampNeg (S9 a0 ((44 + v2) + 1).toNatClampNeg)) fun S12 => if qin ((64 + v2) + 1) (kd a0).2 = true then if qin (64 + v2) (kd a0).2 = true then obs (qup S12 a0 (64 + v2).toNatClampNeg (S12 a0 ((64 + v2) + 1).toNatClampNeg)) fun S15 => (B8_tearDown_9 n a0 n9) (v2 + 1) S15 else none else none else none else none else none else none else none else none) else none
set_option maxRecDepth 100000 in
set_option maxHeartbeats 4000000 in
theorem W8_tearDown_9 {S2 : qSt} (C : qC g cX8_tearDown RX8 3 p s m meth c) (hr : meth.sig.returnType = none) (n : Nat) (a0 : Nat) (ha0 : tyI a0) : ∀ (n9 : Nat) (v2 : Int32) (S : qSt), B8_tearDown_9 n a0 n9 v2 S = some S2 → qR g NL qT 3 p l e rmX8_tearDown s m args below meth c 0 0 (MQ below (qQv g NL qT (qmem g S2)) args s 0 0 (qA g)) (qmem g S) 9 [(0, .ref (qa g a0)), (2, .int v2)] [] := by
  intro n9
  induction n9 with
  | zero =>
    intro v2 S h
    have h9 : (none : Option qSt) = some S2 := h
    cases h9
  | succ n9 ih =>
    intro v2 S h
    rw [B8_tearDown_9] at h
    refine q_iload_n C 1 dX8_tearDown_9 rfl rfl ?_
    refine q_aload_n C 0 dX8_tearDown_10 rfl rfl ?_
    refine q_iconst (v := 1) C dX8_tearDown_11 (by decide) ?_
    obtain ⟨hb3, h⟩ := q_if h
    refine s_iald C ha0.1 ha0.2 hb3 dX8_tearDown_12 ?_
    refine q_icmp_ge (tgt := 76) C h dX8_tearDown_13 (by decide) (fun h => ?_) (fun h => ?_)
    · obtain rfl := Option.some.inj h
      exact q_vret C hr (Nat.le_refl 0) (Nat.le_refl 0) dX8_tearDown_76
    · refine q_aload_n C 0 dX8_tearDown_16 rfl rfl ?_
      refine q_iconst (v := 4) C dX8_tearDown_17 (by decide) ?_
      refine q_iload_n C 1 dX8_tearDown_18 rfl rfl ?_
      refine q_iadd C dX8_tearDown_19 ?_
      refine q_aload_n C 0 dX8_tearDown_20 rfl rfl ?_
      refine q_iconst (v := 4) C dX8_tearDown_21 (by decide) ?_
      refine q_iload_n C 1 dX8_tearDown_22 rfl rfl ?_
      refine q_iadd C dX8_tearDown_23 ?_
      refine q_iconst (v := 1) C dX8_tearDown_24 (by decide) ?_
      refine q_iadd C dX8_tearDown_25 ?_
      obtain ⟨hb4, h⟩ := q_if h
      refine s_iald C ha0.1 ha0.2 hb4 dX8_tearDown_26 ?_
      obtain ⟨hb5, h⟩ := q_if h
      obtain ⟨S6, hS6, h⟩ := obs_e h
      refine s_iast C ha0.1 ha0.2 hb5 dX8_tearDown_27 ?_
      rw [← hS6]
      refine q_aload_n C 0 dX8_tearDown_28 rfl rfl ?_
      refine q_bipush (v := 24) C dX8_tearDown_29 (by decide) ?_
      refine q_iload_n C 1 dX8_tearDown_31 rfl rfl ?_
      refine q_iadd C dX8_tearDown_32 ?_
      refine q_aload_n C 0 dX8_tearDown_33 rfl rfl ?_
      refine q_bipush (v := 24) C dX8_tearDown_34 (by decide) ?_
      refine q_iload_n C 1 dX8_tearDown_36 rfl rfl ?_
      refine q_iadd C dX8_tearDown_37 ?_
      refine q_iconst (v := 1) C dX8_tearDown_38 (by decide) ?_
      refine q_iadd C dX8_tearDown_39 ?_
      obtain ⟨hb7, h⟩ := q_if h
      refine s_iald C ha0.1 ha0.2 hb7 dX8_tearDown_40 ?_
      obtain ⟨hb8, h⟩ := q_if h
      obtain ⟨S9, hS9, h⟩ := obs_e h
      refine s_iast C ha0.1 ha0.2 hb8 dX8_tearDown_41 ?_
      rw [← hS9]
      refine q_aload_n C 0 dX8_tearDown_42 rfl rfl ?_
      refine q_bipush (v := 44) C dX8_tearDown_43 (by decide) ?_
      refine q_iload_n C 1 dX8_tearDown_45 rfl rfl ?_
      refine q_iadd C dX8_tearDown_46 ?_
      refine q_aload_n C 0 dX8_tearDown_47 rfl rfl ?_
      refine q_bipush (v := 44) C dX8_tearDown_48 (by decide) ?_
      refine q_iload_n C 1 dX8_tearDown_50 rfl rfl ?_
      refine q_iadd C dX8_tearDown_51 ?_
      refine q_iconst (v := 1) C dX8_tearDown_52 (by decide) ?_
      refine q_iadd C dX8_tearDown_53 ?_
      obtain ⟨hb10, h⟩ := q_if h
      refine s_iald C ha0.1 ha0.2 hb10 dX8_tearDown_54 ?_
      obtain ⟨hb11, h⟩ := q_if h
      obtain ⟨S12, hS12, h⟩ := obs_e h
      refine s_iast C ha0.1 ha0.2 hb11 dX8_tearDown_55 ?_
      rw [← hS12]
      refine q_aload_n C 0 dX8_tearDown_56 rfl rfl ?_
      refine q_bipush (v := 64) C dX8_tearDown_57 (by decide) ?_
      refine q_iload_n C 1 dX8_tearDown_59 rfl rfl ?_
      refine q_iadd C dX8_tearDown_60 ?_
      refine q_aload_n C 0 dX8_tearDown_61 rfl rfl ?_
      refine q_bipush (v := 64) C dX8_tearDown_62 (by decide) ?_
      refine q_iload_n C 1 dX8_tearDown_64 rfl rfl ?_
      refine q_iadd C dX8_tearDown_65 ?_
      refine q_iconst (v := 1) C dX8_tearDown_66 (by decide) ?_
      refine q_iadd C dX8_tearDown_67 ?_
      obtain ⟨hb13, h⟩ := q_if h
      refine s_iald C ha0.1 ha0.2 hb13 dX8_tearDown_68 ?_
      obtain ⟨hb14, h⟩ := q_if h
      obtain ⟨S15, hS15, h⟩ := obs_e h
      refine s_iast C ha0.1 ha0.2 hb14 dX8_tearDown_69 ?_
      rw [← hS15]
      refine q_iinc C 1 (v := v2 + 1) (lv' := [(2, .int (v2 + 1)), (0, .ref (qa g a0))]) dX8_tearDown_70 rfl rfl (by decide) rfl ?_
      refine q_norm [1, 0] rfl ?_
      refine q_goto (tgt := 9) C dX8_tearDown_73 (by decide) ?_
      exact ih (v2 + 1) S15 h
def F8_tearDown (n : Nat) (a0 : Nat) (v1 : Int32) (S : qSt) : Option qSt := if qin (1 : Int32) (kd a0).2 = true then obs (qup S a0 (1 : Int32).toNatClampNeg ((S a0 (1 : Int32).toNatClampNeg) - 1)) fun S2 => B8_tearDown_9 n a0 n v1 S2 else none
set_option maxRecDepth 100000 in
set_option maxHeartbeats 4000000 in
theorem kX8_tearDown {l : Launch} {g : qG} (n : Nat) (a0 : Nat) (ha0 : tyI a0) (v1 : Int32) (S : qSt) {S2 : qSt} (h : F8_tearDown n a0 v1 S = some S2) : Met l yX8_tearDown [.code yX8_tearDown cX8_tearDown 3 none] rmX8_tearDown (qPc g NL qT (qmem g S) [.ref (qa g a0), .int v1]) (qQv g NL qT (qmem g S2)) 0 0 (qA g) := by
  refine q_met (by decide) (Nat.le_of_ble_eq_true rfl) (fun p e s m args below meth c C hr _ => ?_)
  have C : qC g cX8_tearDown RX8 3 p s m meth c := C
  show qR g NL qT 3 p l e rmX8_tearDown s m args below meth c 0 0 (MQ below (qQv g NL qT (qmem g S2)) args s 0 0 (qA g)) (qmem g S) 0 [(0, .ref (qa g a0)), (1, .int v1)] []
  unfold F8_tearDown at h
  refine q_aload_n C 0 dX8_tearDown_0 rfl rfl ?_
  refine q_iconst (v := 1) C dX8_tearDown_1 (by decide) ?_
  refine q_dup2 C dX8_tearDown_2 rfl rfl ?_
  obtain ⟨hb1, h⟩ := q_if h
  refine s_iald C ha0.1 ha0.2 hb1 dX8_tearDown_3 ?_
  refine q_iconst (v := 1) C dX8_tearDown_4 (by decide) ?_
  refine q_isub C dX8_tearDown_5 ?_
  obtain ⟨S2, hS2, h⟩ := obs_e h
  refine s_iast C ha0.1 ha0.2 hb1 dX8_tearDown_6 ?_
  rw [← hS2]
  refine q_iload_n C 1 dX8_tearDown_7 rfl rfl ?_
  refine q_istore_n C (lv' := [(2, .int v1), (0, .ref (qa g a0)), (1, .int v1)]) dX8_tearDown_8 rfl (by decide) rfl ?_
  refine q_norm [1, 2, 0] rfl ?_
  refine q_norm [0, 2] rfl ?_
  exact W8_tearDown_9 C hr n a0 ha0 n v1 S2 h
/-! ClosedStreetsModel.price -/
abbrev rmX8_price : Room := { frames := 0, cells := 0, slots := 0, locals := 0 }
def F8_price (v1 : Int32) (v2 : Int32) (v3 : Int32) (S : qSt) : Option qSt := if qin ((9 * v1) + v2) 81 = true then obs (qup S 120 ((9 * v1) + v2).toNatClampNeg v3) fun S2 => if qin ((9 * v2) + v1) 81 = true then some (qup S2 120 ((9 * v2) + v1).toNatClampNeg v3) else none else none
set_option maxRecDepth 100000 in
set_option maxHeartbeats 4000000 in
theorem kX8_price {l : Launch} {g : qG} (v1 : Int32) (v2 : Int32) (v3 : Int32) (S : qSt) {S2 : qSt} (h : F8_price v1 v2 v3 S = some S2) : Met l yX8_price [.code yX8_price cX8_price 4 none] rmX8_price (qPc g NL qT (qmem g S) [.ref (qa g 111), .int v1, .int v2, .int v3]) (qQv g NL qT (qmem g S2)) 0 0 (qA g) := by
  refine q_met (by decide) (Nat.le_of_ble_eq_true rfl) (fun p e s m args below meth c C hr _ => ?_)
  have C : qC g cX8_price RX8 4 p s m meth c := C
  show qR g NL qT 4 p l e rmX8_price s m args below meth c 0 0 (MQ below (qQv g NL qT (qmem g S2)) args s 0 0 (qA g)) (qmem g S) 0 [(0, .ref (qa g 111)), (1, .int v1), (2, .int v2), (3, .int v3)] []
  unfold F8_price at h
  refine q_aload_n C 0 dX8_price_0 rfl rfl ?_
  refine s_getr (a := 120) C lf8_35 ltp_111 kd_111 rfl dX8_price_1 ?_
  refine q_bipush (v := 9) C dX8_price_4 (by decide) ?_
  refine q_iload_n C 1 dX8_price_6 rfl rfl ?_
  refine q_imul C dX8_price_7 ?_
  refine q_iload_n C 2 dX8_price_8 rfl rfl ?_
  refine q_iadd C dX8_price_9 ?_
  refine q_iload_n C 3 dX8_price_10 rfl rfl ?_
  obtain ⟨hb1, h⟩ := q_if h
  obtain ⟨S2, hS2, h⟩ := obs_e h
  refine s_iast C ltp_120 kd_120 hb1 dX8_price_11 ?_
  rw [← hS2]
  refine q_aload_n C 0 dX8_price_12 rfl rfl ?_
  refine s_getr (a := 120) C lf8_35 ltp_111 kd_111 rfl dX8_price_13 ?_
  refine q_bipush (v := 9) C dX8_price_16 (by decide) ?_
  refine q_iload_n C 2 dX8_price_18 rfl rfl ?_
  refine q_imul C dX8_price_19 ?_
  refine q_iload_n C 1 dX8_price_20 rfl rfl ?_
  refine q_iadd C dX8_price_21 ?_
  refine q_iload_n C 3 dX8_price_22 rfl rfl ?_
  obtain ⟨hb3, h⟩ := q_if h
  refine s_iast C ltp_120 kd_120 hb3 dX8_price_23 ?_
  obtain rfl := Option.some.inj h
  exact q_vret C hr (Nat.le_refl 0) (Nat.le_refl 0) dX8_price_24
end
