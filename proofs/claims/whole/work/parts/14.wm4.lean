section
variable {l : Launch} {g : qG} {p : Program} {e : Env} {s : State} {m : MethodId} {args : Array Value} {below : List Frame} {meth : Method} {c : Code}
/-! ClosedStreetsModel.withoutAt -/
abbrev rmX8_withoutAt : Room := { frames := 4, cells := 0, slots := 0, locals := 160 }
def B8_withoutAt_25 (n : Nat) (v1 : Int32) (v2 : Int32) (t1 : Int32) (S : qSt) : Option (Int32 × qSt) := ob2 (F8_refused t1 S) fun r4 S5 => if r4 = 0 then (ob2 (F8_layWay n 114 v1 S5) fun r7 S8 => ob1 (F8_at v2 S8) fun r10 => some (r10, S8)) else (some (0, S5))
set_option maxRecDepth 100000 in
set_option maxHeartbeats 4000000 in
theorem W8_withoutAt_25 {r : Int32} {S2 : qSt} (C : qC g cX8_withoutAt RX8 3 p s m meth c) (hr : meth.sig.returnType = (some .int)) (n : Nat) (v1 : Int32) (v2 : Int32) (t1 : Int32) (S : qSt) (h : B8_withoutAt_25 n v1 v2 t1 S = some (r, S2)) : qR g NL qT 3 p l e rmX8_withoutAt s m args below meth c 0 0 (MQ below (qQi g NL qT (qmem g S2) r) args s 0 0 (qA g)) (qmem g S) 25 [(0, .ref (qa g 111)), (1, .int v1), (2, .int v2)] [.int t1, .ref (qa g 111)] := by
  unfold B8_withoutAt_25 at h
  obtain ⟨r4, S5, hc3, h⟩ := ob2_e h
  refine q_callVi0 C ltp_111 (qmem_o kd_111 (Nat.le_of_ble_eq_true rfl)) rfl rfl (kX8_refused t1 S hc3) lm8_103 rfl (rest := []) rfl (Nat.le_of_ble_eq_true rfl) dX8_withoutAt_25 ⟨rfl, rfl, Nat.le_of_ble_eq_true rfl, Nat.le_of_ble_eq_true rfl, Nat.le_of_ble_eq_true rfl, Nat.le_of_ble_eq_true rfl⟩ ?_
  refine q_if_eq (tgt := 33) C h dX8_withoutAt_28 (by decide) (fun h => ?_) (fun h => ?_)
  · refine q_aload_n C 0 dX8_withoutAt_33 rfl rfl ?_
    refine q_aload_n C 0 dX8_withoutAt_34 rfl rfl ?_
    refine s_getr (a := 114) C lf8_16 ltp_111 kd_111 rfl dX8_withoutAt_35 ?_
    refine q_iload_n C 1 dX8_withoutAt_38 rfl rfl ?_
    obtain ⟨r7, S8, hc6, h⟩ := ob2_e h
    refine q_callVi0 C ltp_111 (qmem_o kd_111 (Nat.le_of_ble_eq_true rfl)) rfl rfl (kX8_layWay n 114 (tyI_114) v1 S5 hc6) lm8_170 rfl (rest := []) rfl (Nat.le_of_ble_eq_true rfl) dX8_withoutAt_39 ⟨rfl, rfl, Nat.le_of_ble_eq_true rfl, Nat.le_of_ble_eq_true rfl, Nat.le_of_ble_eq_true rfl, Nat.le_of_ble_eq_true rfl⟩ ?_
    refine q_pop C dX8_withoutAt_42 rfl ?_
    refine q_aload_n C 0 dX8_withoutAt_43 rfl rfl ?_
    refine q_iload_n C 2 dX8_withoutAt_44 rfl rfl ?_
    obtain ⟨r10, hc9, h⟩ := ob1_e h
    refine q_callVi0 C ltp_111 (qmem_o kd_111 (Nat.le_of_ble_eq_true rfl)) rfl rfl (kX8_at v2 S8 hc9) lm8_187 rfl (rest := []) rfl (Nat.le_of_ble_eq_true rfl) dX8_withoutAt_45 ⟨rfl, rfl, Nat.le_of_ble_eq_true rfl, Nat.le_of_ble_eq_true rfl, Nat.le_of_ble_eq_true rfl, Nat.le_of_ble_eq_true rfl⟩ ?_
    obtain ⟨rfl, rfl⟩ := Prod.mk.inj (Option.some.inj h)
    exact q_iret C hr (Nat.le_refl 0) (Nat.le_refl 0) dX8_withoutAt_48
  · refine q_iconst (v := 0) C dX8_withoutAt_31 (by decide) ?_
    obtain ⟨rfl, rfl⟩ := Prod.mk.inj (Option.some.inj h)
    exact q_iret C hr (Nat.le_refl 0) (Nat.le_refl 0) dX8_withoutAt_32
def F8_withoutAt (n : Nat) (v1 : Int32) (v2 : Int32) (S : qSt) : Option (Int32 × qSt) := ob1 (F8_isStreet 114 v1 S) fun r2 => if ¬ r2 = 0 then (if 0 ≤ v2 then (B8_withoutAt_25 n v1 v2 0 S) else (B8_withoutAt_25 n v1 v2 2 S)) else (B8_withoutAt_25 n v1 v2 1 S)
set_option maxRecDepth 100000 in
set_option maxHeartbeats 4000000 in
theorem kX8_withoutAt {l : Launch} {g : qG} (n : Nat) (v1 : Int32) (v2 : Int32) (S : qSt) {r : Int32} {S2 : qSt} (h : F8_withoutAt n v1 v2 S = some (r, S2)) : Met l yX8_withoutAt [.code yX8_withoutAt cX8_withoutAt 3 (some .int)] rmX8_withoutAt (qPc g NL qT (qmem g S) [.ref (qa g 111), .int v1, .int v2]) (qQi g NL qT (qmem g S2) r) 0 0 (qA g) := by
  refine q_met (by decide) (Nat.le_of_ble_eq_true rfl) (fun p e s m args below meth c C hr _ => ?_)
  have C : qC g cX8_withoutAt RX8 3 p s m meth c := C
  show qR g NL qT 3 p l e rmX8_withoutAt s m args below meth c 0 0 (MQ below (qQi g NL qT (qmem g S2) r) args s 0 0 (qA g)) (qmem g S) 0 [(0, .ref (qa g 111)), (1, .int v1), (2, .int v2)] []
  unfold F8_withoutAt at h
  refine q_aload_n C 0 dX8_withoutAt_0 rfl rfl ?_
  refine q_aload_n C 0 dX8_withoutAt_1 rfl rfl ?_
  refine s_getr (a := 114) C lf8_16 ltp_111 kd_111 rfl dX8_withoutAt_2 ?_
  refine q_iload_n C 1 dX8_withoutAt_5 rfl rfl ?_
  obtain ⟨r2, hc1, h⟩ := ob1_e h
  refine q_callSi0 C (kX8_isStreet 114 (tyI_114) v1 S hc1) lm8_173 rfl (rest := [.ref (qa g 111)]) rfl (Nat.le_of_ble_eq_true rfl) dX8_withoutAt_6 ⟨rfl, rfl, Nat.le_of_ble_eq_true rfl, Nat.le_of_ble_eq_true rfl, Nat.le_of_ble_eq_true rfl, Nat.le_of_ble_eq_true rfl⟩ ?_
  refine q_if_ne (tgt := 16) C h dX8_withoutAt_9 (by decide) (fun h => ?_) (fun h => ?_)
  · refine q_iload_n C 2 dX8_withoutAt_16 rfl rfl ?_
    refine q_if_ge (tgt := 24) C h dX8_withoutAt_17 (by decide) (fun h => ?_) (fun h => ?_)
    · refine q_iconst (v := 0) C dX8_withoutAt_24 (by decide) ?_
      exact W8_withoutAt_25 C hr n v1 v2 0 S h
    · refine q_iconst (v := 2) C dX8_withoutAt_20 (by decide) ?_
      refine q_goto (tgt := 25) C dX8_withoutAt_21 (by decide) ?_
      exact W8_withoutAt_25 C hr n v1 v2 2 S h
  · refine q_iconst (v := 1) C dX8_withoutAt_12 (by decide) ?_
    refine q_goto (tgt := 25) C dX8_withoutAt_13 (by decide) ?_
    exact W8_withoutAt_25 C hr n v1 v2 1 S h
/-! ClosedStreetsModel.dearest -/
abbrev rmX8_dearest : Room := { frames := 4, cells := 0, slots := 0, locals := 160 }
def B8_dearest_107 (n : Nat) (K20 : Int32 → Int32 → Int32 → qSt → Option (Int32 × qSt)) (v1 : Int32) (v2 : Int32) (v3 : Int32) (S : qSt) : Option (Int32 × qSt) := K20 v1 v2 (v3 + 1) S
set_option maxRecDepth 100000 in
set_option maxHeartbeats 4000000 in
theorem W8_dearest_107 {r : Int32} {S2 : qSt} (C : qC g cX8_dearest RX8 6 p s m meth c) (hr : meth.sig.returnType = (some .int)) (n : Nat) (K20 : Int32 → Int32 → Int32 → qSt → Option (Int32 × qSt)) (hK20 : ∀ (v1 : Int32) (v2 : Int32) (v3 : Int32) (S : qSt), K20 v1 v2 v3 S = some (r, S2) → qR g NL qT 6 p l e rmX8_dearest s m args below meth c 0 0 (MQ below (qQi g NL qT (qmem g S2) r) args s 0 0 (qA g)) (qmem g S) 20 [(0, .ref (qa g 111)), (1, .int v1), (2, .int v2), (3, .int v3)] []) (v1 : Int32) (v2 : Int32) (v3 : Int32) (S : qSt) (h : B8_dearest_107 n K20 v1 v2 v3 S = some (r, S2)) : qR g NL qT 6 p l e rmX8_dearest s m args below meth c 0 0 (MQ below (qQi g NL qT (qmem g S2) r) args s 0 0 (qA g)) (qmem g S) 107 [(0, .ref (qa g 111)), (1, .int v1), (2, .int v2), (3, .int v3)] [] := by
  unfold B8_dearest_107 at h
  refine q_iinc C 3 (v := v3 + 1) (lv' := [(3, .int (v3 + 1)), (0, .ref (qa g 111)), (1, .int v1), (2, .int v2)]) dX8_dearest_107 rfl rfl (by decide) rfl ?_
  refine q_norm [1, 2, 3, 0] rfl ?_
  refine q_goto (tgt := 20) C dX8_dearest_110 (by decide) ?_
  exact hK20 v1 v2 (v3 + 1) S h
def B8_dearest_106 (n : Nat) (K20 : Int32 → Int32 → Int32 → qSt → Option (Int32 × qSt)) (v1 : Int32) (v3 : Int32) (t0 : Int32) (S : qSt) : Option (Int32 × qSt) := B8_dearest_107 n K20 v1 t0 v3 S
set_option maxRecDepth 100000 in
set_option maxHeartbeats 4000000 in
theorem W8_dearest_106 {r : Int32} {S2 : qSt} (C : qC g cX8_dearest RX8 6 p s m meth c) (hr : meth.sig.returnType = (some .int)) (n : Nat) (K20 : Int32 → Int32 → Int32 → qSt → Option (Int32 × qSt)) (hK20 : ∀ (v1 : Int32) (v2 : Int32) (v3 : Int32) (S : qSt), K20 v1 v2 v3 S = some (r, S2) → qR g NL qT 6 p l e rmX8_dearest s m args below meth c 0 0 (MQ below (qQi g NL qT (qmem g S2) r) args s 0 0 (qA g)) (qmem g S) 20 [(0, .ref (qa g 111)), (1, .int v1), (2, .int v2), (3, .int v3)] []) (v1 : Int32) (v3 : Int32) (t0 : Int32) (S : qSt) (h : B8_dearest_106 n K20 v1 v3 t0 S = some (r, S2)) : qR g NL qT 6 p l e rmX8_dearest s m args below meth c 0 0 (MQ below (qQi g NL qT (qmem g S2) r) args s 0 0 (qA g)) (qmem g S) 106 [(0, .ref (qa g 111)), (1, .int v1), (3, .int v3)] [.int t0] := by
  unfold B8_dearest_106 at h
  refine q_istore_n C (lv' := [(2, .int t0), (0, .ref (qa g 111)), (1, .int v1), (3, .int v3)]) dX8_dearest_106 rfl (by decide) rfl ?_
  refine q_norm [1, 2, 0, 3] rfl ?_
  exact W8_dearest_107 C hr n K20 hK20 v1 t0 v3 S h
def B8_dearest_93 (n : Nat) (K20 : Int32 → Int32 → Int32 → qSt → Option (Int32 × qSt)) (v2 : Int32) (v3 : Int32) (v5 : Int32) (t0 : Int32) (S : qSt) : Option (Int32 × qSt) := if v5 ≤ v2 then (B8_dearest_106 n K20 t0 v3 v2 S) else (B8_dearest_106 n K20 t0 v3 v5 S)
set_option maxRecDepth 100000 in
set_option maxHeartbeats 4000000 in
theorem W8_dearest_93 {r : Int32} {S2 : qSt} (C : qC g cX8_dearest RX8 6 p s m meth c) (hr : meth.sig.returnType = (some .int)) (n : Nat) (K20 : Int32 → Int32 → Int32 → qSt → Option (Int32 × qSt)) (hK20 : ∀ (v1 : Int32) (v2 : Int32) (v3 : Int32) (S : qSt), K20 v1 v2 v3 S = some (r, S2) → qR g NL qT 6 p l e rmX8_dearest s m args below meth c 0 0 (MQ below (qQi g NL qT (qmem g S2) r) args s 0 0 (qA g)) (qmem g S) 20 [(0, .ref (qa g 111)), (1, .int v1), (2, .int v2), (3, .int v3)] []) (v2 : Int32) (v3 : Int32) (v5 : Int32) (t0 : Int32) (S : qSt) (h : B8_dearest_93 n K20 v2 v3 v5 t0 S = some (r, S2)) : qR g NL qT 6 p l e rmX8_dearest s m args below meth c 0 0 (MQ below (qQi g NL qT (qmem g S2) r) args s 0 0 (qA g)) (qmem g S) 93 [(0, .ref (qa g 111)), (2, .int v2), (3, .int v3), (5, .int v5)] [.int t0] := by
  unfold B8_dearest_93 at h
  refine q_istore_n C (lv' := [(1, .int t0), (0, .ref (qa g 111)), (2, .int v2), (3, .int v3), (5, .int v5)]) dX8_dearest_93 rfl (by decide) rfl ?_
  refine q_norm [1, 0, 2, 3, 4] rfl ?_
  refine q_iload C 4 dX8_dearest_94 rfl ?_
  refine q_iload_n C 2 dX8_dearest_96 rfl rfl ?_
  refine q_icmp_le (tgt := 105) C h dX8_dearest_97 (by decide) (fun h => ?_) (fun h => ?_)
  · refine q_iload_n C 2 dX8_dearest_105 rfl rfl ?_
    refine q_norm [0, 1, 3] rfl ?_
    exact W8_dearest_106 C hr n K20 hK20 t0 v3 v2 S h
  · refine q_iload C 4 dX8_dearest_100 rfl ?_
    refine q_goto (tgt := 106) C dX8_dearest_102 (by decide) ?_
    refine q_norm [0, 1, 3] rfl ?_
    exact W8_dearest_106 C hr n K20 hK20 t0 v3 v5 S h
def B8_dearest_80 (n : Nat) (K20 : Int32 → Int32 → Int32 → qSt → Option (Int32 × qSt)) (v1 : Int32) (v2 : Int32) (v3 : Int32) (t0 : Int32) (S : qSt) : Option (Int32 × qSt) := if t0 ≤ v2 then (B8_dearest_93 n K20 v2 v3 t0 v1 S) else (B8_dearest_93 n K20 v2 v3 t0 v3 S)
set_option maxRecDepth 100000 in
set_option maxHeartbeats 4000000 in
theorem W8_dearest_80 {r : Int32} {S2 : qSt} (C : qC g cX8_dearest RX8 6 p s m meth c) (hr : meth.sig.returnType = (some .int)) (n : Nat) (K20 : Int32 → Int32 → Int32 → qSt → Option (Int32 × qSt)) (hK20 : ∀ (v1 : Int32) (v2 : Int32) (v3 : Int32) (S : qSt), K20 v1 v2 v3 S = some (r, S2) → qR g NL qT 6 p l e rmX8_dearest s m args below meth c 0 0 (MQ below (qQi g NL qT (qmem g S2) r) args s 0 0 (qA g)) (qmem g S) 20 [(0, .ref (qa g 111)), (1, .int v1), (2, .int v2), (3, .int v3)] []) (v1 : Int32) (v2 : Int32) (v3 : Int32) (t0 : Int32) (S : qSt) (h : B8_dearest_80 n K20 v1 v2 v3 t0 S = some (r, S2)) : qR g NL qT 6 p l e rmX8_dearest s m args below meth c 0 0 (MQ below (qQi g NL qT (qmem g S2) r) args s 0 0 (qA g)) (qmem g S) 80 [(0, .ref (qa g 111)), (1, .int v1), (2, .int v2), (3, .int v3)] [.int t0] := by
  unfold B8_dearest_80 at h
  refine q_istore C (lv' := [(5, .int t0), (0, .ref (qa g 111)), (1, .int v1), (2, .int v2), (3, .int v3)]) dX8_dearest_80 (by decide) rfl ?_
  refine q_norm [1, 2, 3, 4, 0] rfl ?_
  refine q_iload C 4 dX8_dearest_82 rfl ?_
  refine q_iload_n C 2 dX8_dearest_84 rfl rfl ?_
  refine q_icmp_le (tgt := 92) C h dX8_dearest_85 (by decide) (fun h => ?_) (fun h => ?_)
  · refine q_iload_n C 1 dX8_dearest_92 rfl rfl ?_
    refine q_norm [0, 2, 3, 4] rfl ?_
    exact W8_dearest_93 C hr n K20 hK20 v2 v3 t0 v1 S h
  · refine q_iload_n C 3 dX8_dearest_88 rfl rfl ?_
    refine q_goto (tgt := 93) C dX8_dearest_89 (by decide) ?_
    refine q_norm [0, 2, 3, 4] rfl ?_
    exact W8_dearest_93 C hr n K20 hK20 v2 v3 t0 v3 S h
def B8_dearest_20 (n : Nat) : Nat → Int32 → Int32 → Int32 → qSt → Option (Int32 × qSt)
  | 0, _, _, _, _ => none
  | n9 + 1, v1, v2, v3, S => if (S 114 (1 : Int32).toNatClampNeg) ≤ v3 then (some (v1, S)) else (if qin (64 + v3) 84 = true then if ¬ (S 114 (64 + v3).toNatClampNeg) = 0 then (B8_dearest_107 n (B8_dearest_20 n n9) v1 v2 v3 S) else (ob1 (F8_isOfWay n 114 v3 S) fun r6 => if r6 = 0 then (B8_dearest_107 n (B8_dearest_20 n n9) v1 v2 v3 S) else (ob2 (F8_bestBut n 114 v3 S) fun r8 S9 => if ¬ r8 = (-999) then (B8_dearest_80 n (B8_dearest_20 n n9) v1 v2 v3 r8 S9) else (B8_dearest_80 n (B8_dearest_20 n n9) v1 v2 v3 1000000 S9))) else none)
set_option maxRecDepth 100000 in
set_option maxHeartbeats 4000000 in
theorem W8_dearest_20 {r : Int32} {S2 : qSt} (C : qC g cX8_dearest RX8 6 p s m meth c) (hr : meth.sig.returnType = (some .int)) (n : Nat) : ∀ (n9 : Nat) (v1 : Int32) (v2 : Int32) (v3 : Int32) (S : qSt), B8_dearest_20 n n9 v1 v2 v3 S = some (r, S2) → qR g NL qT 6 p l e rmX8_dearest s m args below meth c 0 0 (MQ below (qQi g NL qT (qmem g S2) r) args s 0 0 (qA g)) (qmem g S) 20 [(0, .ref (qa g 111)), (1, .int v1), (2, .int v2), (3, .int v3)] [] := by
  intro n9
  induction n9 with
  | zero =>
    intro v1 v2 v3 S h
    have h9 : (none : Option (Int32 × qSt)) = some (r, S2) := h
    cases h9
  | succ n9 ih =>
    intro v1 v2 v3 S h
    rw [B8_dearest_20] at h
    refine q_iload_n C 3 dX8_dearest_20 rfl rfl ?_
    refine q_aload_n C 0 dX8_dearest_21 rfl rfl ?_
    refine s_getr (a := 114) C lf8_16 ltp_111 kd_111 rfl dX8_dearest_22 ?_
    refine q_iconst (v := 1) C dX8_dearest_25 (by decide) ?_
    refine s_iald C ltp_114 kd_114 (by decide) dX8_dearest_26 ?_
    refine q_icmp_ge (tgt := 113) C h dX8_dearest_27 (by decide) (fun h => ?_) (fun h => ?_)
    · refine q_iload_n C 1 dX8_dearest_113 rfl rfl ?_
      obtain ⟨rfl, rfl⟩ := Prod.mk.inj (Option.some.inj h)
      exact q_iret C hr (Nat.le_refl 0) (Nat.le_refl 0) dX8_dearest_114
    · refine q_aload_n C 0 dX8_dearest_30 rfl rfl ?_
      refine s_getr (a := 114) C lf8_16 ltp_111 kd_111 rfl dX8_dearest_31 ?_
      refine q_bipush (v := 64) C dX8_dearest_34 (by decide) ?_
      refine q_iload_n C 3 dX8_dearest_36 rfl rfl ?_
      refine q_iadd C dX8_dearest_37 ?_
      obtain ⟨hb4, h⟩ := q_if h
      refine s_iald C ltp_114 kd_114 hb4 dX8_dearest_38 ?_
      refine q_if_ne (tgt := 107) C h dX8_dearest_39 (by decide) (fun h => ?_) (fun h => ?_)
      · exact W8_dearest_107 C hr n (B8_dearest_20 n n9) ih v1 v2 v3 S h
      · refine q_aload_n C 0 dX8_dearest_42 rfl rfl ?_
        refine q_aload_n C 0 dX8_dearest_43 rfl rfl ?_
        refine s_getr (a := 114) C lf8_16 ltp_111 kd_111 rfl dX8_dearest_44 ?_
        refine q_iload_n C 3 dX8_dearest_47 rfl rfl ?_
        obtain ⟨r6, hc5, h⟩ := ob1_e h
        refine q_callVi0 C ltp_111 (qmem_o kd_111 (Nat.le_of_ble_eq_true rfl)) rfl rfl (kX8_isOfWay n 114 (tyI_114) v3 S hc5) lm8_179 rfl (rest := []) rfl (Nat.le_of_ble_eq_true rfl) dX8_dearest_48 ⟨rfl, rfl, Nat.le_of_ble_eq_true rfl, Nat.le_of_ble_eq_true rfl, Nat.le_of_ble_eq_true rfl, Nat.le_of_ble_eq_true rfl⟩ ?_
        refine q_if_eq (tgt := 107) C h dX8_dearest_51 (by decide) (fun h => ?_) (fun h => ?_)
        · exact W8_dearest_107 C hr n (B8_dearest_20 n n9) ih v1 v2 v3 S h
        · refine q_aload_n C 0 dX8_dearest_54 rfl rfl ?_
          refine q_aload_n C 0 dX8_dearest_55 rfl rfl ?_
          refine s_getr (a := 114) C lf8_16 ltp_111 kd_111 rfl dX8_dearest_56 ?_
          refine q_iload_n C 3 dX8_dearest_59 rfl rfl ?_
          obtain ⟨r8, S9, hc7, h⟩ := ob2_e h
          refine q_callVi0 C ltp_111 (qmem_o kd_111 (Nat.le_of_ble_eq_true rfl)) rfl rfl (kX8_bestBut n 114 (tyI_114) v3 S hc7) lm8_88 rfl (rest := []) rfl (Nat.le_of_ble_eq_true rfl) dX8_dearest_60 ⟨rfl, rfl, Nat.le_of_ble_eq_true rfl, Nat.le_of_ble_eq_true rfl, Nat.le_of_ble_eq_true rfl, Nat.le_of_ble_eq_true rfl⟩ ?_
          refine q_istore C (lv' := [(4, .int r8), (0, .ref (qa g 111)), (1, .int v1), (2, .int v2), (3, .int v3)]) dX8_dearest_63 (by decide) rfl ?_
          refine q_norm [1, 2, 3, 4, 0] rfl ?_
          refine q_iload C 4 dX8_dearest_65 rfl ?_
          refine q_sipush (v := (-999)) C dX8_dearest_67 (by decide) ?_
          refine q_icmp_ne (tgt := 78) C h dX8_dearest_70 (by decide) (fun h => ?_) (fun h => ?_)
          · refine q_iload C 4 dX8_dearest_78 rfl ?_
            refine q_norm [0, 1, 2, 3] rfl ?_
            exact W8_dearest_80 C hr n (B8_dearest_20 n n9) ih v1 v2 v3 r8 S9 h
          · refine q_ldc (v := 1000000) C lc8_73 dX8_dearest_73 ?_
            refine q_goto (tgt := 80) C dX8_dearest_75 (by decide) ?_
            refine q_norm [0, 1, 2, 3] rfl ?_
            exact W8_dearest_80 C hr n (B8_dearest_20 n n9) ih v1 v2 v3 1000000 S9 h
def F8_dearest (n : Nat) (S : qSt) : Option (Int32 × qSt) := ob2 (F8_layWay n 114 (-999) S) fun r2 S3 => B8_dearest_20 n n (-999) 0 0 S3
set_option maxRecDepth 100000 in
set_option maxHeartbeats 4000000 in
theorem kX8_dearest {l : Launch} {g : qG} (n : Nat) (S : qSt) {r : Int32} {S2 : qSt} (h : F8_dearest n S = some (r, S2)) : Met l yX8_dearest [.code yX8_dearest cX8_dearest 6 (some .int)] rmX8_dearest (qPc g NL qT (qmem g S) [.ref (qa g 111)]) (qQi g NL qT (qmem g S2) r) 0 0 (qA g) := by
  refine q_met (by decide) (Nat.le_of_ble_eq_true rfl) (fun p e s m args below meth c C hr _ => ?_)
  have C : qC g cX8_dearest RX8 6 p s m meth c := C
  show qR g NL qT 6 p l e rmX8_dearest s m args below meth c 0 0 (MQ below (qQi g NL qT (qmem g S2) r) args s 0 0 (qA g)) (qmem g S) 0 [(0, .ref (qa g 111))] []
  unfold F8_dearest at h
  refine q_aload_n C 0 dX8_dearest_0 rfl rfl ?_
  refine q_aload_n C 0 dX8_dearest_1 rfl rfl ?_
  refine s_getr (a := 114) C lf8_16 ltp_111 kd_111 rfl dX8_dearest_2 ?_
  refine q_sipush (v := (-999)) C dX8_dearest_5 (by decide) ?_
  obtain ⟨r2, S3, hc1, h⟩ := ob2_e h
  refine q_callVi0 C ltp_111 (qmem_o kd_111 (Nat.le_of_ble_eq_true rfl)) rfl rfl (kX8_layWay n 114 (tyI_114) (-999) S hc1) lm8_170 rfl (rest := []) rfl (Nat.le_of_ble_eq_true rfl) dX8_dearest_8 ⟨rfl, rfl, Nat.le_of_ble_eq_true rfl, Nat.le_of_ble_eq_true rfl, Nat.le_of_ble_eq_true rfl, Nat.le_of_ble_eq_true rfl⟩ ?_
  refine q_pop C dX8_dearest_11 rfl ?_
  refine q_sipush (v := (-999)) C dX8_dearest_12 (by decide) ?_
  refine q_istore_n C (lv' := [(1, .int (-999)), (0, .ref (qa g 111))]) dX8_dearest_15 rfl (by decide) rfl ?_
  refine q_norm [1, 0] rfl ?_
  refine q_iconst (v := 0) C dX8_dearest_16 (by decide) ?_
  refine q_istore_n C (lv' := [(2, .int 0), (0, .ref (qa g 111)), (1, .int (-999))]) dX8_dearest_17 rfl (by decide) rfl ?_
  refine q_norm [1, 2, 0] rfl ?_
  refine q_iconst (v := 0) C dX8_dearest_18 (by decide) ?_
  refine q_istore_n C (lv' := [(3, .int 0), (0, .ref (qa g 111)), (1, .int (-999)), (2, .int 0)]) dX8_dearest_19 rfl (by decide) rfl ?_
  refine q_norm [1, 2, 3, 0] rfl ?_
  exact W8_dearest_20 C hr n n (-999) 0 0 S3 h
/-! ClosedStreetsModel.upTo -/
abbrev rmX8_upTo : Room := { frames := 4, cells := 0, slots := 0, locals := 160 }
def B8_upTo_41 (n : Nat) : Nat → Int32 → Int32 → qSt → Option (Int32 × qSt)
  | 0, _, _, _ => none
  | n9 + 1, v1, v2, S => if v2 ≤ 0 then (some ((-999), S)) else (if qin (64 + v1) 84 = true then if ¬ (S 114 (64 + v1).toNatClampNeg) = 0 then (some ((-999), S)) else (if qin (44 + v1) 84 = true then obs (qup S 115 (44 + v1).toNatClampNeg v2) fun S10 => ob2 (F8_layWay n 115 (-999) S10) fun r12 S13 => ob1 (F8_isOfWay n 115 v1 S13) fun r15 => if r15 = 0 then ((B8_upTo_41 n n9) v1 (v2 + (-1)) S13) else (some (v2, S13)) else none) else none)
set_option maxRecDepth 100000 in
set_option maxHeartbeats 4000000 in
theorem W8_upTo_41 {r : Int32} {S2 : qSt} (C : qC g cX8_upTo RX8 3 p s m meth c) (hr : meth.sig.returnType = (some .int)) (n : Nat) : ∀ (n9 : Nat) (v1 : Int32) (v2 : Int32) (S : qSt), B8_upTo_41 n n9 v1 v2 S = some (r, S2) → qR g NL qT 3 p l e rmX8_upTo s m args below meth c 0 0 (MQ below (qQi g NL qT (qmem g S2) r) args s 0 0 (qA g)) (qmem g S) 41 [(0, .ref (qa g 111)), (1, .int v1), (2, .int v2)] [] := by
  intro n9
  induction n9 with
  | zero =>
    intro v1 v2 S h
    have h9 : (none : Option (Int32 × qSt)) = some (r, S2) := h
    cases h9
  | succ n9 ih =>
    intro v1 v2 S h
    rw [B8_upTo_41] at h
    refine q_iload_n C 2 dX8_upTo_41 rfl rfl ?_
    refine q_if_le (tgt := 99) C h dX8_upTo_42 (by decide) (fun h => ?_) (fun h => ?_)
    · refine q_sipush (v := (-999)) C dX8_upTo_99 (by decide) ?_
      obtain ⟨rfl, rfl⟩ := Prod.mk.inj (Option.some.inj h)
      exact q_iret C hr (Nat.le_refl 0) (Nat.le_refl 0) dX8_upTo_102
    · refine q_aload_n C 0 dX8_upTo_45 rfl rfl ?_
      refine s_getr (a := 114) C lf8_16 ltp_111 kd_111 rfl dX8_upTo_46 ?_
      refine q_bipush (v := 64) C dX8_upTo_49 (by decide) ?_
      refine q_iload_n C 1 dX8_upTo_51 rfl rfl ?_
      refine q_iadd C dX8_upTo_52 ?_
      obtain ⟨hb8, h⟩ := q_if h
      refine s_iald C ltp_114 kd_114 hb8 dX8_upTo_53 ?_
      refine q_if_ne (tgt := 99) C h dX8_upTo_54 (by decide) (fun h => ?_) (fun h => ?_)
      · refine q_sipush (v := (-999)) C dX8_upTo_99 (by decide) ?_
        obtain ⟨rfl, rfl⟩ := Prod.mk.inj (Option.some.inj h)
        exact q_iret C hr (Nat.le_refl 0) (Nat.le_refl 0) dX8_upTo_102
      · refine q_aload_n C 0 dX8_upTo_57 rfl rfl ?_
        refine s_getr (a := 115) C lf8_19 ltp_111 kd_111 rfl dX8_upTo_58 ?_
        refine q_bipush (v := 44) C dX8_upTo_61 (by decide) ?_
        refine q_iload_n C 1 dX8_upTo_63 rfl rfl ?_
        refine q_iadd C dX8_upTo_64 ?_
        refine q_iload_n C 2 dX8_upTo_65 rfl rfl ?_
        obtain ⟨hb9, h⟩ := q_if h
        obtain ⟨S10, hS10, h⟩ := obs_e h
        refine s_iast C ltp_115 kd_115 hb9 dX8_upTo_66 ?_
        rw [← hS10]
        refine q_aload_n C 0 dX8_upTo_67 rfl rfl ?_
        refine q_aload_n C 0 dX8_upTo_68 rfl rfl ?_
        refine s_getr (a := 115) C lf8_19 ltp_111 kd_111 rfl dX8_upTo_69 ?_
        refine q_sipush (v := (-999)) C dX8_upTo_72 (by decide) ?_
        obtain ⟨r12, S13, hc11, h⟩ := ob2_e h
        refine q_callVi0 C ltp_111 (qmem_o kd_111 (Nat.le_of_ble_eq_true rfl)) rfl rfl (kX8_layWay n 115 (tyI_115) (-999) S10 hc11) lm8_170 rfl (rest := []) rfl (Nat.le_of_ble_eq_true rfl) dX8_upTo_75 ⟨rfl, rfl, Nat.le_of_ble_eq_true rfl, Nat.le_of_ble_eq_true rfl, Nat.le_of_ble_eq_true rfl, Nat.le_of_ble_eq_true rfl⟩ ?_
        refine q_pop C dX8_upTo_78 rfl ?_
        refine q_aload_n C 0 dX8_upTo_79 rfl rfl ?_
        refine q_aload_n C 0 dX8_upTo_80 rfl rfl ?_
        refine s_getr (a := 115) C lf8_19 ltp_111 kd_111 rfl dX8_upTo_81 ?_
        refine q_iload_n C 1 dX8_upTo_84 rfl rfl ?_
        obtain ⟨r15, hc14, h⟩ := ob1_e h
        refine q_callVi0 C ltp_111 (qmem_o kd_111 (Nat.le_of_ble_eq_true rfl)) rfl rfl (kX8_isOfWay n 115 (tyI_115) v1 S13 hc14) lm8_179 rfl (rest := []) rfl (Nat.le_of_ble_eq_true rfl) dX8_upTo_85 ⟨rfl, rfl, Nat.le_of_ble_eq_true rfl, Nat.le_of_ble_eq_true rfl, Nat.le_of_ble_eq_true rfl, Nat.le_of_ble_eq_true rfl⟩ ?_
        refine q_if_eq (tgt := 93) C h dX8_upTo_88 (by decide) (fun h => ?_) (fun h => ?_)
        · refine q_iinc C 2 (v := v2 + (-1)) (lv' := [(2, .int (v2 + (-1))), (0, .ref (qa g 111)), (1, .int v1)]) dX8_upTo_93 rfl rfl (by decide) rfl ?_
          refine q_norm [1, 2, 0] rfl ?_
          refine q_goto (tgt := 41) C dX8_upTo_96 (by decide) ?_
          exact ih v1 (v2 + (-1)) S13 h
        · refine q_iload_n C 2 dX8_upTo_91 rfl rfl ?_
          obtain ⟨rfl, rfl⟩ := Prod.mk.inj (Option.some.inj h)
          exact q_iret C hr (Nat.le_refl 0) (Nat.le_refl 0) dX8_upTo_92
def B8_upTo_17 (n : Nat) (v1 : Int32) (t1 : Int32) (S : qSt) : Option (Int32 × qSt) := ob2 (F8_refused t1 S) fun r4 S5 => if r4 = 0 then (ob1 (F8_copyTown n 114 0 115 0 S5) fun S7 => B8_upTo_41 n n v1 99 S7) else (some (0, S5))
set_option maxRecDepth 100000 in
set_option maxHeartbeats 4000000 in
theorem W8_upTo_17 {r : Int32} {S2 : qSt} (C : qC g cX8_upTo RX8 3 p s m meth c) (hr : meth.sig.returnType = (some .int)) (n : Nat) (v1 : Int32) (t1 : Int32) (S : qSt) (h : B8_upTo_17 n v1 t1 S = some (r, S2)) : qR g NL qT 3 p l e rmX8_upTo s m args below meth c 0 0 (MQ below (qQi g NL qT (qmem g S2) r) args s 0 0 (qA g)) (qmem g S) 17 [(0, .ref (qa g 111)), (1, .int v1)] [.int t1, .ref (qa g 111)] := by
  unfold B8_upTo_17 at h
  obtain ⟨r4, S5, hc3, h⟩ := ob2_e h
  refine q_callVi0 C ltp_111 (qmem_o kd_111 (Nat.le_of_ble_eq_true rfl)) rfl rfl (kX8_refused t1 S hc3) lm8_103 rfl (rest := []) rfl (Nat.le_of_ble_eq_true rfl) dX8_upTo_17 ⟨rfl, rfl, Nat.le_of_ble_eq_true rfl, Nat.le_of_ble_eq_true rfl, Nat.le_of_ble_eq_true rfl, Nat.le_of_ble_eq_true rfl⟩ ?_
  refine q_if_eq (tgt := 25) C h dX8_upTo_20 (by decide) (fun h => ?_) (fun h => ?_)
  · refine q_aload_n C 0 dX8_upTo_25 rfl rfl ?_
    refine s_getr (a := 114) C lf8_16 ltp_111 kd_111 rfl dX8_upTo_26 ?_
    refine q_iconst (v := 0) C dX8_upTo_29 (by decide) ?_
    refine q_aload_n C 0 dX8_upTo_30 rfl rfl ?_
    refine s_getr (a := 115) C lf8_19 ltp_111 kd_111 rfl dX8_upTo_31 ?_
    refine q_iconst (v := 0) C dX8_upTo_34 (by decide) ?_
    obtain ⟨S7, hc6, h⟩ := ob1_e h
    refine q_callSv0 C (kX8_copyTown n 114 (tyI_114) 0 115 (tyI_115) 0 S5 hc6) lm8_161 rfl (rest := []) rfl (Nat.le_of_ble_eq_true rfl) dX8_upTo_35 ⟨rfl, rfl, Nat.le_of_ble_eq_true rfl, Nat.le_of_ble_eq_true rfl, Nat.le_of_ble_eq_true rfl, Nat.le_of_ble_eq_true rfl⟩ ?_
    refine q_bipush (v := 99) C dX8_upTo_38 (by decide) ?_
    refine q_istore_n C (lv' := [(2, .int 99), (0, .ref (qa g 111)), (1, .int v1)]) dX8_upTo_40 rfl (by decide) rfl ?_
    refine q_norm [1, 2, 0] rfl ?_
    exact W8_upTo_41 C hr n n v1 99 S7 h
  · refine q_iconst (v := 0) C dX8_upTo_23 (by decide) ?_
    obtain ⟨rfl, rfl⟩ := Prod.mk.inj (Option.some.inj h)
    exact q_iret C hr (Nat.le_refl 0) (Nat.le_refl 0) dX8_upTo_24
def F8_upTo (n : Nat) (v1 : Int32) (S : qSt) : Option (Int32 × qSt) := ob1 (F8_isStreet 114 v1 S) fun r2 => if r2 = 0 then (B8_upTo_17 n v1 1 S) else (B8_upTo_17 n v1 0 S)
set_option maxRecDepth 100000 in
set_option maxHeartbeats 4000000 in
theorem kX8_upTo {l : Launch} {g : qG} (n : Nat) (v1 : Int32) (S : qSt) {r : Int32} {S2 : qSt} (h : F8_upTo n v1 S = some (r, S2)) : Met l yX8_upTo [.code yX8_upTo cX8_upTo 3 (some .int)] rmX8_upTo (qPc g NL qT (qmem g S) [.ref (qa g 111), .int v1]) (qQi g NL qT (qmem g S2) r) 0 0 (qA g) := by
  refine q_met (by decide) (Nat.le_of_ble_eq_true rfl) (fun p e s m args below meth c C hr _ => ?_)
  have C : qC g cX8_upTo RX8 3 p s m meth c := C
  show qR g NL qT 3 p l e rmX8_upTo s m args below meth c 0 0 (MQ below (qQi g NL qT (qmem g S2) r) args s 0 0 (qA g)) (qmem g S) 0 [(0, .ref (qa g 111)), (1, .int v1)] []
  unfold F8_upTo at h
  refine q_aload_n C 0 dX8_upTo_0 rfl rfl ?_
  refine q_aload_n C 0 dX8_upTo_1 rfl rfl ?_
  refine s_getr (a := 114) C lf8_16 ltp_111 kd_111 rfl dX8_upTo_2 ?_
  refine q_iload_n C 1 dX8_upTo_5 rfl rfl ?_
  obtain ⟨r2, hc1, h⟩ := ob1_e h
  refine q_callSi0 C (kX8_isStreet 114 (tyI_114) v1 S hc1) lm8_173 rfl (rest := [.ref (qa g 111)]) rfl (Nat.le_of_ble_eq_true rfl) dX8_upTo_6 ⟨rfl, rfl, Nat.le_of_ble_eq_true rfl, Nat.le_of_ble_eq_true rfl, Nat.le_of_ble_eq_true rfl, Nat.le_of_ble_eq_true rfl⟩ ?_
  refine q_if_eq (tgt := 16) C h dX8_upTo_9 (by decide) (fun h => ?_) (fun h => ?_)
  · refine q_iconst (v := 1) C dX8_upTo_16 (by decide) ?_
    exact W8_upTo_17 C hr n v1 1 S h
  · refine q_iconst (v := 0) C dX8_upTo_12 (by decide) ?_
    refine q_goto (tgt := 17) C dX8_upTo_13 (by decide) ?_
    exact W8_upTo_17 C hr n v1 0 S h
/-! ClosedStreetsModel.saves -/
abbrev rmX8_saves : Room := { frames := 3, cells := 0, slots := 0, locals := 120 }
def B8_saves_108 (n : Nat) (S : qSt) : Option (Int32 × qSt) := some ((-999), S)
set_option maxRecDepth 100000 in
set_option maxHeartbeats 4000000 in
theorem W8_saves_108 {r : Int32} {S2 : qSt} (C : qC g cX8_saves RX8 6 p s m meth c) (hr : meth.sig.returnType = (some .int)) (n : Nat) (S : qSt) (h : B8_saves_108 n S = some (r, S2)) : qR g NL qT 6 p l e rmX8_saves s m args below meth c 0 0 (MQ below (qQi g NL qT (qmem g S2) r) args s 0 0 (qA g)) (qmem g S) 108 [] [] := by
  unfold B8_saves_108 at h
  refine q_sipush (v := (-999)) C dX8_saves_108 (by decide) ?_
  refine q_goto (tgt := 119) C dX8_saves_111 (by decide) ?_
  obtain ⟨rfl, rfl⟩ := Prod.mk.inj (Option.some.inj h)
  exact q_iret C hr (Nat.le_refl 0) (Nat.le_refl 0) dX8_saves_119
def B8_saves_49 (n : Nat) (v1 : Int32) (v2 : Int32) (v3 : Int32) (t1 : Int32) (S : qSt) : Option (Int32 × qSt) := ob2 (F8_refused t1 S) fun r4 S5 => if r4 = 0 then (ob2 (F8_bestBut n 114 (-999) S5) fun r7 S8 => ob1 (F8_price v1 v2 ((100 * v3) + 1) S8) fun S10 => ob2 (F8_best n 114 S10) fun r12 S13 => if r7 = (-999) then (B8_saves_108 n S13) else (if ¬ r12 = (-999) then (some (r7 - r12, S13)) else (B8_saves_108 n S13))) else (some (0, S5))
set_option maxRecDepth 100000 in
set_option maxHeartbeats 4000000 in
theorem W8_saves_49 {r : Int32} {S2 : qSt} (C : qC g cX8_saves RX8 6 p s m meth c) (hr : meth.sig.returnType = (some .int)) (n : Nat) (v1 : Int32) (v2 : Int32) (v3 : Int32) (t1 : Int32) (S : qSt) (h : B8_saves_49 n v1 v2 v3 t1 S = some (r, S2)) : qR g NL qT 6 p l e rmX8_saves s m args below meth c 0 0 (MQ below (qQi g NL qT (qmem g S2) r) args s 0 0 (qA g)) (qmem g S) 49 [(0, .ref (qa g 111)), (1, .int v1), (2, .int v2), (3, .int v3)] [.int t1, .ref (qa g 111)] := by
  unfold B8_saves_49 at h
  obtain ⟨r4, S5, hc3, h⟩ := ob2_e h
  refine q_callVi0 C ltp_111 (qmem_o kd_111 (Nat.le_of_ble_eq_true rfl)) rfl rfl (kX8_refused t1 S hc3) lm8_103 rfl (rest := []) rfl (Nat.le_of_ble_eq_true rfl) dX8_saves_49 ⟨rfl, rfl, Nat.le_of_ble_eq_true rfl, Nat.le_of_ble_eq_true rfl, Nat.le_of_ble_eq_true rfl, Nat.le_of_ble_eq_true rfl⟩ ?_
  refine q_if_eq (tgt := 57) C h dX8_saves_52 (by decide) (fun h => ?_) (fun h => ?_)
  · refine q_aload_n C 0 dX8_saves_57 rfl rfl ?_
    refine q_aload_n C 0 dX8_saves_58 rfl rfl ?_
    refine s_getr (a := 114) C lf8_16 ltp_111 kd_111 rfl dX8_saves_59 ?_
    refine q_sipush (v := (-999)) C dX8_saves_62 (by decide) ?_
    obtain ⟨r7, S8, hc6, h⟩ := ob2_e h
    refine q_callVi0 C ltp_111 (qmem_o kd_111 (Nat.le_of_ble_eq_true rfl)) rfl rfl (kX8_bestBut n 114 (tyI_114) (-999) S5 hc6) lm8_88 rfl (rest := []) rfl (Nat.le_of_ble_eq_true rfl) dX8_saves_65 ⟨rfl, rfl, Nat.le_of_ble_eq_true rfl, Nat.le_of_ble_eq_true rfl, Nat.le_of_ble_eq_true rfl, Nat.le_of_ble_eq_true rfl⟩ ?_
    refine q_istore C (lv' := [(4, .int r7), (0, .ref (qa g 111)), (1, .int v1), (2, .int v2), (3, .int v3)]) dX8_saves_68 (by decide) rfl ?_
    refine q_norm [1, 2, 3, 4, 0] rfl ?_
    refine q_aload_n C 0 dX8_saves_70 rfl rfl ?_
    refine q_iload_n C 1 dX8_saves_71 rfl rfl ?_
    refine q_iload_n C 2 dX8_saves_72 rfl rfl ?_
    refine q_bipush (v := 100) C dX8_saves_73 (by decide) ?_
    refine q_iload_n C 3 dX8_saves_75 rfl rfl ?_
    refine q_imul C dX8_saves_76 ?_
    refine q_iconst (v := 1) C dX8_saves_77 (by decide) ?_
    refine q_iadd C dX8_saves_78 ?_
    obtain ⟨S10, hc9, h⟩ := ob1_e h
    refine q_callVv0 C ltp_111 (qmem_o kd_111 (Nat.le_of_ble_eq_true rfl)) rfl rfl (kX8_price v1 v2 ((100 * v3) + 1) S8 hc9) lm8_69 rfl (rest := []) rfl (Nat.le_of_ble_eq_true rfl) dX8_saves_79 ⟨rfl, rfl, Nat.le_of_ble_eq_true rfl, Nat.le_of_ble_eq_true rfl, Nat.le_of_ble_eq_true rfl, Nat.le_of_ble_eq_true rfl⟩ ?_
    refine q_aload_n C 0 dX8_saves_82 rfl rfl ?_
    refine q_aload_n C 0 dX8_saves_83 rfl rfl ?_
    refine s_getr (a := 114) C lf8_16 ltp_111 kd_111 rfl dX8_saves_84 ?_
    obtain ⟨r12, S13, hc11, h⟩ := ob2_e h
    refine q_callVi0 C ltp_111 (qmem_o kd_111 (Nat.le_of_ble_eq_true rfl)) rfl rfl (kX8_best n 114 (tyI_114) S10 hc11) lm8_84 rfl (rest := []) rfl (Nat.le_of_ble_eq_true rfl) dX8_saves_87 ⟨rfl, rfl, Nat.le_of_ble_eq_true rfl, Nat.le_of_ble_eq_true rfl, Nat.le_of_ble_eq_true rfl, Nat.le_of_ble_eq_true rfl⟩ ?_
    refine q_istore C (lv' := [(5, .int r12), (0, .ref (qa g 111)), (1, .int v1), (2, .int v2), (3, .int v3), (4, .int r7)]) dX8_saves_90 (by decide) rfl ?_
    refine q_norm [1, 2, 3, 4, 5, 0] rfl ?_
    refine q_iload C 4 dX8_saves_92 rfl ?_
    refine q_sipush (v := (-999)) C dX8_saves_94 (by decide) ?_
    refine q_icmp_eq (tgt := 108) C h dX8_saves_97 (by decide) (fun h => ?_) (fun h => ?_)
    · refine q_norm [] rfl ?_
      exact W8_saves_108 C hr n S13 h
    · refine q_iload C 5 dX8_saves_100 rfl ?_
      refine q_sipush (v := (-999)) C dX8_saves_102 (by decide) ?_
      refine q_icmp_ne (tgt := 114) C h dX8_saves_105 (by decide) (fun h => ?_) (fun h => ?_)
      · refine q_iload C 4 dX8_saves_114 rfl ?_
        refine q_iload C 5 dX8_saves_116 rfl ?_
        refine q_isub C dX8_saves_118 ?_
        obtain ⟨rfl, rfl⟩ := Prod.mk.inj (Option.some.inj h)
        exact q_iret C hr (Nat.le_refl 0) (Nat.le_refl 0) dX8_saves_119
      · refine q_norm [] rfl ?_
        exact W8_saves_108 C hr n S13 h
  · refine q_iconst (v := 0) C dX8_saves_55 (by decide) ?_
    obtain ⟨rfl, rfl⟩ := Prod.mk.inj (Option.some.inj h)
    exact q_iret C hr (Nat.le_refl 0) (Nat.le_refl 0) dX8_saves_56
def B8_saves_23 (n : Nat) (v1 : Int32) (v2 : Int32) (v3 : Int32) (S : qSt) : Option (Int32 × qSt) := B8_saves_49 n v1 v2 v3 1 S
set_option maxRecDepth 100000 in
set_option maxHeartbeats 4000000 in
theorem W8_saves_23 {r : Int32} {S2 : qSt} (C : qC g cX8_saves RX8 6 p s m meth c) (hr : meth.sig.returnType = (some .int)) (n : Nat) (v1 : Int32) (v2 : Int32) (v3 : Int32) (S : qSt) (h : B8_saves_23 n v1 v2 v3 S = some (r, S2)) : qR g NL qT 6 p l e rmX8_saves s m args below meth c 0 0 (MQ below (qQi g NL qT (qmem g S2) r) args s 0 0 (qA g)) (qmem g S) 23 [(0, .ref (qa g 111)), (1, .int v1), (2, .int v2), (3, .int v3)] [.ref (qa g 111)] := by
  unfold B8_saves_23 at h
  refine q_iconst (v := 1) C dX8_saves_23 (by decide) ?_
  refine q_goto (tgt := 49) C dX8_saves_24 (by decide) ?_
  exact W8_saves_49 C hr n v1 v2 v3 1 S h
def B8_saves_44 (n : Nat) (v1 : Int32) (v2 : Int32) (v3 : Int32) (S : qSt) : Option (Int32 × qSt) := B8_saves_49 n v1 v2 v3 2 S
set_option maxRecDepth 100000 in
set_option maxHeartbeats 4000000 in
theorem W8_saves_44 {r : Int32} {S2 : qSt} (C : qC g cX8_saves RX8 6 p s m meth c) (hr : meth.sig.returnType = (some .int)) (n : Nat) (v1 : Int32) (v2 : Int32) (v3 : Int32) (S : qSt) (h : B8_saves_44 n v1 v2 v3 S = some (r, S2)) : qR g NL qT 6 p l e rmX8_saves s m args below meth c 0 0 (MQ below (qQi g NL qT (qmem g S2) r) args s 0 0 (qA g)) (qmem g S) 44 [(0, .ref (qa g 111)), (1, .int v1), (2, .int v2), (3, .int v3)] [.ref (qa g 111)] := by
  unfold B8_saves_44 at h
  refine q_iconst (v := 2) C dX8_saves_44 (by decide) ?_
  refine q_goto (tgt := 49) C dX8_saves_45 (by decide) ?_
  exact W8_saves_49 C hr n v1 v2 v3 2 S h
def F8_saves (n : Nat) (v1 : Int32) (v2 : Int32) (v3 : Int32) (S : qSt) : Option (Int32 × qSt) := ob1 (F8_isCrossing 114 v1 S) fun r2 => if r2 = 0 then (B8_saves_23 n v1 v2 v3 S) else (ob1 (F8_isCrossing 114 v2 S) fun r15 => if ¬ r15 = 0 then (if v1 = v2 then (B8_saves_44 n v1 v2 v3 S) else (if ¬ (F8_in v3.toInt64 1 99 S) = 0 then (B8_saves_49 n v1 v2 v3 0 S) else (B8_saves_44 n v1 v2 v3 S))) else (B8_saves_23 n v1 v2 v3 S))
set_option maxRecDepth 100000 in
set_option maxHeartbeats 4000000 in
theorem kX8_saves {l : Launch} {g : qG} (n : Nat) (v1 : Int32) (v2 : Int32) (v3 : Int32) (S : qSt) {r : Int32} {S2 : qSt} (h : F8_saves n v1 v2 v3 S = some (r, S2)) : Met l yX8_saves [.code yX8_saves cX8_saves 6 (some .int)] rmX8_saves (qPc g NL qT (qmem g S) [.ref (qa g 111), .int v1, .int v2, .int v3]) (qQi g NL qT (qmem g S2) r) 0 0 (qA g) := by
  refine q_met (by decide) (Nat.le_of_ble_eq_true rfl) (fun p e s m args below meth c C hr _ => ?_)
  have C : qC g cX8_saves RX8 6 p s m meth c := C
  show qR g NL qT 6 p l e rmX8_saves s m args below meth c 0 0 (MQ below (qQi g NL qT (qmem g S2) r) args s 0 0 (qA g)) (qmem g S) 0 [(0, .ref (qa g 111)), (1, .int v1), (2, .int v2), (3, .int v3)] []
  unfold F8_saves at h
  refine q_aload_n C 0 dX8_saves_0 rfl rfl ?_
  refine q_aload_n C 0 dX8_saves_1 rfl rfl ?_
  refine s_getr (a := 114) C lf8_16 ltp_111 kd_111 rfl dX8_saves_2 ?_
  refine q_iload_n C 1 dX8_saves_5 rfl rfl ?_
  obtain ⟨r2, hc1, h⟩ := ob1_e h
  refine q_callSi0 C (kX8_isCrossing 114 (tyI_114) v1 S hc1) lm8_182 rfl (rest := [.ref (qa g 111)]) rfl (Nat.le_of_ble_eq_true rfl) dX8_saves_6 ⟨rfl, rfl, Nat.le_of_ble_eq_true rfl, Nat.le_of_ble_eq_true rfl, Nat.le_of_ble_eq_true rfl, Nat.le_of_ble_eq_true rfl⟩ ?_
  refine q_if_eq (tgt := 23) C h dX8_saves_9 (by decide) (fun h => ?_) (fun h => ?_)
  · exact W8_saves_23 C hr n v1 v2 v3 S h
  · refine q_aload_n C 0 dX8_saves_12 rfl rfl ?_
    refine s_getr (a := 114) C lf8_16 ltp_111 kd_111 rfl dX8_saves_13 ?_
    refine q_iload_n C 2 dX8_saves_16 rfl rfl ?_
    obtain ⟨r15, hc14, h⟩ := ob1_e h
    refine q_callSi0 C (kX8_isCrossing 114 (tyI_114) v2 S hc14) lm8_182 rfl (rest := [.ref (qa g 111)]) rfl (Nat.le_of_ble_eq_true rfl) dX8_saves_17 ⟨rfl, rfl, Nat.le_of_ble_eq_true rfl, Nat.le_of_ble_eq_true rfl, Nat.le_of_ble_eq_true rfl, Nat.le_of_ble_eq_true rfl⟩ ?_
    refine q_if_ne (tgt := 27) C h dX8_saves_20 (by decide) (fun h => ?_) (fun h => ?_)
    · refine q_iload_n C 1 dX8_saves_27 rfl rfl ?_
      refine q_iload_n C 2 dX8_saves_28 rfl rfl ?_
      refine q_icmp_eq (tgt := 44) C h dX8_saves_29 (by decide) (fun h => ?_) (fun h => ?_)
      · exact W8_saves_44 C hr n v1 v2 v3 S h
      · refine q_iload_n C 3 dX8_saves_32 rfl rfl ?_
        refine q_i2l C dX8_saves_33 rfl ?_
        refine q_lconst (v := 1) C dX8_saves_34 (by decide) ?_
        refine q_ldc2 (v := 99) C lc8_193 dX8_saves_35 ?_
        refine q_callSi0 C (kX8_in v3.toInt64 1 99 S) lm8_65 rfl (rest := [.ref (qa g 111)]) rfl (Nat.le_of_ble_eq_true rfl) dX8_saves_38 ⟨rfl, rfl, Nat.le_of_ble_eq_true rfl, Nat.le_of_ble_eq_true rfl, Nat.le_of_ble_eq_true rfl, Nat.le_of_ble_eq_true rfl⟩ ?_
        refine q_if_ne (tgt := 48) C h dX8_saves_41 (by decide) (fun h => ?_) (fun h => ?_)
        · refine q_iconst (v := 0) C dX8_saves_48 (by decide) ?_
          exact W8_saves_49 C hr n v1 v2 v3 0 S h
        · exact W8_saves_44 C hr n v1 v2 v3 S h
    · exact W8_saves_23 C hr n v1 v2 v3 S h
/-! ClosedStreetsModel.ways -/
abbrev rmX8_ways : Room := { frames := 2, cells := 0, slots := 0, locals := 80 }
def B8_ways_287 (n : Nat) (K102 : Int32 → Int32 → Int32 → qSt → Option (Int32 × qSt)) (v1 : Int32) (v2 : Int32) (v3 : Int32) (S : qSt) : Option (Int32 × qSt) := K102 v1 v2 v3 S
set_option maxRecDepth 100000 in
set_option maxHeartbeats 4000000 in
theorem W8_ways_287 {r : Int32} {S2 : qSt} (C : qC g cX8_ways RX8 6 p s m meth c) (hr : meth.sig.returnType = (some .int)) (n : Nat) (K102 : Int32 → Int32 → Int32 → qSt → Option (Int32 × qSt)) (hK102 : ∀ (v1 : Int32) (v2 : Int32) (v3 : Int32) (S : qSt), K102 v1 v2 v3 S = some (r, S2) → qR g NL qT 6 p l e rmX8_ways s m args below meth c 0 0 (MQ below (qQi g NL qT (qmem g S2) r) args s 0 0 (qA g)) (qmem g S) 102 [(0, .ref (qa g 111)), (1, .int v1), (2, .int v2), (3, .int v3)] []) (v1 : Int32) (v2 : Int32) (v3 : Int32) (S : qSt) (h : B8_ways_287 n K102 v1 v2 v3 S = some (r, S2)) : qR g NL qT 6 p l e rmX8_ways s m args below meth c 0 0 (MQ below (qQi g NL qT (qmem g S2) r) args s 0 0 (qA g)) (qmem g S) 287 [(0, .ref (qa g 111)), (1, .int v1), (2, .int v2), (3, .int v3)] [] := by
  unfold B8_ways_287 at h
  refine q_goto (tgt := 102) C dX8_ways_287 (by decide) ?_
  exact hK102 v1 v2 v3 S h
def B8_ways_102 (n : Nat) : Nat → Int32 → Int32 → Int32 → qSt → Option (Int32 × qSt)
  | 0, _, _, _, _ => none
  | n9 + 1, v1, v2, v3, S => if v3 < 0 then (some (v2, S)) else (if 500 ≤ v2 then (some (v2, S)) else (if qin v3 9 = true then if qin v3 10 = true then obs (qup S 123 v3.toNatClampNeg ((S 123 v3.toNatClampNeg) + 1)) fun S11 => if ¬ (S 123 v3.toNatClampNeg) = 9 then (if qin ((9 * (S 122 v3.toNatClampNeg)) + (S 123 v3.toNatClampNeg)) 81 = true then if (S11 120 ((9 * (S 122 v3.toNatClampNeg)) + (S 123 v3.toNatClampNeg)).toNatClampNeg) ≤ 0 then (B8_ways_287 n (B8_ways_102 n n9) v1 v2 v3 S11) else (if qin (S 123 v3.toNatClampNeg) 9 = true then if ¬ (S11 125 (S 123 v3.toNatClampNeg).toNatClampNeg) = 0 then (B8_ways_287 n (B8_ways_102 n n9) v1 v2 v3 S11) else (if v1 < ((S11 124 v3.toNatClampNeg) + ((S11 120 ((9 * (S 122 v3.toNatClampNeg)) + (S 123 v3.toNatClampNeg)).toNatClampNeg) / 100)) then (B8_ways_287 n (B8_ways_102 n n9) v1 v2 v3 S11) else (if ¬ (S 123 v3.toNatClampNeg) = (S11 114 (3 : Int32).toNatClampNeg) then (if qin (v3 + 1) 9 = true then obs (qup S11 122 (v3 + 1).toNatClampNeg (S 123 v3.toNatClampNeg)) fun S15 => if qin (v3 + 1) 10 = true then obs (qup S15 123 (v3 + 1).toNatClampNeg (0 : Int32)) fun S17 => if qin ((v3 + 1) - 1) 10 = true then obs (qup S17 124 (v3 + 1).toNatClampNeg ((S17 124 ((v3 + 1) - 1).toNatClampNeg) + ((S17 120 ((9 * (S 122 v3.toNatClampNeg)) + (S 123 v3.toNatClampNeg)).toNatClampNeg) / 100))) fun S19 => obs (qup S19 125 (S 123 v3.toNatClampNeg).toNatClampNeg ((1 : Int32) &&& 1)) fun S20 => B8_ways_287 n (B8_ways_102 n n9) v1 v2 (v3 + 1) S20 else none else none else none) else (B8_ways_287 n (B8_ways_102 n n9) v1 (v2 + 1) v3 S11))) else none) else none) else (if qin (S 122 v3.toNatClampNeg) 9 = true then obs (qup S11 125 (S 122 v3.toNatClampNeg).toNatClampNeg ((0 : Int32) &&& 1)) fun S22 => B8_ways_287 n (B8_ways_102 n n9) v1 v2 (v3 + (-1)) S22 else none) else none else none))
set_option maxRecDepth 100000 in
set_option maxHeartbeats 4000000 in
theorem W8_ways_102 {r : Int32} {S2 : qSt} (C : qC g cX8_ways RX8 6 p s m meth c) (hr : meth.sig.returnType = (some .int)) (n : Nat) : ∀ (n9 : Nat) (v1 : Int32) (v2 : Int32) (v3 : Int32) (S : qSt), B8_ways_102 n n9 v1 v2 v3 S = some (r, S2) → qR g NL qT 6 p l e rmX8_ways s m args below meth c 0 0 (MQ below (qQi g NL qT (qmem g S2) r) args s 0 0 (qA g)) (qmem g S) 102 [(0, .ref (qa g 111)), (1, .int v1), (2, .int v2), (3, .int v3)] [] := by
  intro n9
  induction n9 with
  | zero =>
    intro v1 v2 v3 S h
    have h9 : (none : Option (Int32 × qSt)) = some (r, S2) := h
    cases h9
  | succ n9 ih =>
    intro v1 v2 v3 S h
    rw [B8_ways_102] at h
    refine q_iload_n C 3 dX8_ways_102 rfl rfl ?_
    refine q_if_lt (tgt := 290) C h dX8_ways_103 (by decide) (fun h => ?_) (fun h => ?_)
    · refine q_iload_n C 2 dX8_ways_290 rfl rfl ?_
      obtain ⟨rfl, rfl⟩ := Prod.mk.inj (Option.some.inj h)
      exact q_iret C hr (Nat.le_refl 0) (Nat.le_refl 0) dX8_ways_291
    · refine q_iload_n C 2 dX8_ways_106 rfl rfl ?_
      refine q_sipush (v := 500) C dX8_ways_107 (by decide) ?_
      refine q_icmp_ge (tgt := 290) C h dX8_ways_110 (by decide) (fun h => ?_) (fun h => ?_)
      · refine q_iload_n C 2 dX8_ways_290 rfl rfl ?_
        obtain ⟨rfl, rfl⟩ := Prod.mk.inj (Option.some.inj h)
        exact q_iret C hr (Nat.le_refl 0) (Nat.le_refl 0) dX8_ways_291
      · refine q_aload_n C 0 dX8_ways_113 rfl rfl ?_
        refine s_getr (a := 122) C lf8_41 ltp_111 kd_111 rfl dX8_ways_114 ?_
        refine q_iload_n C 3 dX8_ways_117 rfl rfl ?_
        obtain ⟨hb9, h⟩ := q_if h
        refine s_iald C ltp_122 kd_122 hb9 dX8_ways_118 ?_
        refine q_istore C (lv' := [(4, .int (S 122 v3.toNatClampNeg)), (0, .ref (qa g 111)), (1, .int v1), (2, .int v2), (3, .int v3)]) dX8_ways_119 (by decide) rfl ?_
        refine q_norm [1, 2, 3, 4, 0] rfl ?_
        refine q_aload_n C 0 dX8_ways_121 rfl rfl ?_
        refine s_getr (a := 123) C lf8_44 ltp_111 kd_111 rfl dX8_ways_122 ?_
        refine q_iload_n C 3 dX8_ways_125 rfl rfl ?_
        obtain ⟨hb10, h⟩ := q_if h
        refine s_iald C ltp_123 kd_123 hb10 dX8_ways_126 ?_
        refine q_istore C (lv' := [(5, .int (S 123 v3.toNatClampNeg)), (0, .ref (qa g 111)), (1, .int v1), (2, .int v2), (3, .int v3), (4, .int (S 122 v3.toNatClampNeg))]) dX8_ways_127 (by decide) rfl ?_
        refine q_norm [1, 2, 3, 4, 5, 0] rfl ?_
        refine q_aload_n C 0 dX8_ways_129 rfl rfl ?_
        refine s_getr (a := 123) C lf8_44 ltp_111 kd_111 rfl dX8_ways_130 ?_
        refine q_iload_n C 3 dX8_ways_133 rfl rfl ?_
        refine q_dup2 C dX8_ways_134 rfl rfl ?_
        refine s_iald C ltp_123 kd_123 hb10 dX8_ways_135 ?_
        refine q_iconst (v := 1) C dX8_ways_136 (by decide) ?_
        refine q_iadd C dX8_ways_137 ?_
        obtain ⟨S11, hS11, h⟩ := obs_e h
        refine s_iast C ltp_123 kd_123 hb10 dX8_ways_138 ?_
        rw [← hS11]
        refine q_iload C 5 dX8_ways_139 rfl ?_
        refine q_bipush (v := 9) C dX8_ways_141 (by decide) ?_
        refine q_icmp_ne (tgt := 160) C h dX8_ways_143 (by decide) (fun h => ?_) (fun h => ?_)
        · refine q_aload_n C 0 dX8_ways_160 rfl rfl ?_
          refine s_getr (a := 120) C lf8_35 ltp_111 kd_111 rfl dX8_ways_161 ?_
          refine q_bipush (v := 9) C dX8_ways_164 (by decide) ?_
          refine q_iload C 4 dX8_ways_166 rfl ?_
          refine q_imul C dX8_ways_168 ?_
          refine q_iload C 5 dX8_ways_169 rfl ?_
          refine q_iadd C dX8_ways_171 ?_
          obtain ⟨hb12, h⟩ := q_if h
          refine s_iald C ltp_120 kd_120 hb12 dX8_ways_172 ?_
          refine q_if_le (tgt := 287) C h dX8_ways_173 (by decide) (fun h => ?_) (fun h => ?_)
          · refine q_norm [0, 1, 2, 3] rfl ?_
            exact W8_ways_287 C hr n (B8_ways_102 n n9) ih v1 v2 v3 S11 h
          · refine q_aload_n C 0 dX8_ways_176 rfl rfl ?_
            refine s_getr (a := 125) C lf8_50 ltp_111 kd_111 rfl dX8_ways_177 ?_
            refine q_iload C 5 dX8_ways_180 rfl ?_
            obtain ⟨hb13, h⟩ := q_if h
            refine s_zald C ltp_125 kd_125 hb13 dX8_ways_182 ?_
            refine q_if_ne (tgt := 287) C h dX8_ways_183 (by decide) (fun h => ?_) (fun h => ?_)
            · refine q_norm [0, 1, 2, 3] rfl ?_
              exact W8_ways_287 C hr n (B8_ways_102 n n9) ih v1 v2 v3 S11 h
            · refine q_aload_n C 0 dX8_ways_186 rfl rfl ?_
              refine s_getr (a := 124) C lf8_47 ltp_111 kd_111 rfl dX8_ways_187 ?_
              refine q_iload_n C 3 dX8_ways_190 rfl rfl ?_
              refine s_iald C ltp_124 kd_124 hb10 dX8_ways_191 ?_
              refine q_aload_n C 0 dX8_ways_192 rfl rfl ?_
              refine s_getr (a := 120) C lf8_35 ltp_111 kd_111 rfl dX8_ways_193 ?_
              refine q_bipush (v := 9) C dX8_ways_196 (by decide) ?_
              refine q_iload C 4 dX8_ways_198 rfl ?_
              refine q_imul C dX8_ways_200 ?_
              refine q_iload C 5 dX8_ways_201 rfl ?_
              refine q_iadd C dX8_ways_203 ?_
              refine s_iald C ltp_120 kd_120 hb12 dX8_ways_204 ?_
              refine q_bipush (v := 100) C dX8_ways_205 (by decide) ?_
              refine q_idiv C dX8_ways_207 (by decide) ?_
              refine q_iadd C dX8_ways_208 ?_
              refine q_iload_n C 1 dX8_ways_209 rfl rfl ?_
              refine q_icmp_gt (tgt := 287) C h dX8_ways_210 (by decide) (fun h => ?_) (fun h => ?_)
              · refine q_norm [0, 1, 2, 3] rfl ?_
                exact W8_ways_287 C hr n (B8_ways_102 n n9) ih v1 v2 v3 S11 h
              · refine q_iload C 5 dX8_ways_213 rfl ?_
                refine q_aload_n C 0 dX8_ways_215 rfl rfl ?_
                refine s_getr (a := 114) C lf8_16 ltp_111 kd_111 rfl dX8_ways_216 ?_
                refine q_iconst (v := 3) C dX8_ways_219 (by decide) ?_
                refine s_iald C ltp_114 kd_114 (by decide) dX8_ways_220 ?_
                refine q_icmp_ne (tgt := 230) C h dX8_ways_221 (by decide) (fun h => ?_) (fun h => ?_)
                · refine q_iinc C 3 (v := v3 + 1) (lv' := [(3, .int (v3 + 1)), (0, .ref (qa g 111)), (1, .int v1), (2, .int v2), (4, .int (S 122 v3.toNatClampNeg)), (5, .int (S 123 v3.toNatClampNeg))]) dX8_ways_230 rfl rfl (by decide) rfl ?_
                  refine q_norm [1, 2, 3, 0, 4, 5] rfl ?_
                  refine q_aload_n C 0 dX8_ways_233 rfl rfl ?_
                  refine s_getr (a := 122) C lf8_41 ltp_111 kd_111 rfl dX8_ways_234 ?_
                  refine q_iload_n C 3 dX8_ways_237 rfl rfl ?_
                  refine q_iload C 5 dX8_ways_238 rfl ?_
                  obtain ⟨hb14, h⟩ := q_if h
                  obtain ⟨S15, hS15, h⟩ := obs_e h
                  refine s_iast C ltp_122 kd_122 hb14 dX8_ways_240 ?_
                  rw [← hS15]
                  refine q_aload_n C 0 dX8_ways_241 rfl rfl ?_
                  refine s_getr (a := 123) C lf8_44 ltp_111 kd_111 rfl dX8_ways_242 ?_
                  refine q_iload_n C 3 dX8_ways_245 rfl rfl ?_
                  refine q_iconst (v := 0) C dX8_ways_246 (by decide) ?_
                  obtain ⟨hb16, h⟩ := q_if h
                  obtain ⟨S17, hS17, h⟩ := obs_e h
                  refine s_iast C ltp_123 kd_123 hb16 dX8_ways_247 ?_
                  rw [← hS17]
                  refine q_aload_n C 0 dX8_ways_248 rfl rfl ?_
                  refine s_getr (a := 124) C lf8_47 ltp_111 kd_111 rfl dX8_ways_249 ?_
                  refine q_iload_n C 3 dX8_ways_252 rfl rfl ?_
                  refine q_aload_n C 0 dX8_ways_253 rfl rfl ?_
                  refine s_getr (a := 124) C lf8_47 ltp_111 kd_111 rfl dX8_ways_254 ?_
                  refine q_iload_n C 3 dX8_ways_257 rfl rfl ?_
                  refine q_iconst (v := 1) C dX8_ways_258 (by decide) ?_
                  refine q_isub C dX8_ways_259 ?_
                  obtain ⟨hb18, h⟩ := q_if h
                  refine s_iald C ltp_124 kd_124 hb18 dX8_ways_260 ?_
                  refine q_aload_n C 0 dX8_ways_261 rfl rfl ?_
                  refine s_getr (a := 120) C lf8_35 ltp_111 kd_111 rfl dX8_ways_262 ?_
                  refine q_bipush (v := 9) C dX8_ways_265 (by decide) ?_
                  refine q_iload C 4 dX8_ways_267 rfl ?_
                  refine q_imul C dX8_ways_269 ?_
                  refine q_iload C 5 dX8_ways_270 rfl ?_
                  refine q_iadd C dX8_ways_272 ?_
                  refine s_iald C ltp_120 kd_120 hb12 dX8_ways_273 ?_
                  refine q_bipush (v := 100) C dX8_ways_274 (by decide) ?_
                  refine q_idiv C dX8_ways_276 (by decide) ?_
                  refine q_iadd C dX8_ways_277 ?_
                  obtain ⟨S19, hS19, h⟩ := obs_e h
                  refine s_iast C ltp_124 kd_124 hb16 dX8_ways_278 ?_
                  rw [← hS19]
                  refine q_aload_n C 0 dX8_ways_279 rfl rfl ?_
                  refine s_getr (a := 125) C lf8_50 ltp_111 kd_111 rfl dX8_ways_280 ?_
                  refine q_iload C 5 dX8_ways_283 rfl ?_
                  refine q_iconst (v := 1) C dX8_ways_285 (by decide) ?_
                  obtain ⟨S20, hS20, h⟩ := obs_e h
                  refine s_zast C ltp_125 kd_125 hb13 dX8_ways_286 ?_
                  rw [← hS20]
                  refine q_norm [0, 1, 2, 3] rfl ?_
                  exact W8_ways_287 C hr n (B8_ways_102 n n9) ih v1 v2 (v3 + 1) S20 h
                · refine q_iinc C 2 (v := v2 + 1) (lv' := [(2, .int (v2 + 1)), (0, .ref (qa g 111)), (1, .int v1), (3, .int v3), (4, .int (S 122 v3.toNatClampNeg)), (5, .int (S 123 v3.toNatClampNeg))]) dX8_ways_224 rfl rfl (by decide) rfl ?_
                  refine q_norm [1, 2, 0, 3, 4, 5] rfl ?_
                  refine q_goto (tgt := 287) C dX8_ways_227 (by decide) ?_
                  refine q_norm [0, 1, 2, 3] rfl ?_
                  exact W8_ways_287 C hr n (B8_ways_102 n n9) ih v1 (v2 + 1) v3 S11 h
        · refine q_aload_n C 0 dX8_ways_146 rfl rfl ?_
          refine s_getr (a := 125) C lf8_50 ltp_111 kd_111 rfl dX8_ways_147 ?_
          refine q_iload C 4 dX8_ways_150 rfl ?_
          refine q_iconst (v := 0) C dX8_ways_152 (by decide) ?_
          obtain ⟨hb21, h⟩ := q_if h
          obtain ⟨S22, hS22, h⟩ := obs_e h
          refine s_zast C ltp_125 kd_125 hb21 dX8_ways_153 ?_
          rw [← hS22]
          refine q_iinc C 3 (v := v3 + (-1)) (lv' := [(3, .int (v3 + (-1))), (0, .ref (qa g 111)), (1, .int v1), (2, .int v2), (4, .int (S 122 v3.toNatClampNeg)), (5, .int (S 123 v3.toNatClampNeg))]) dX8_ways_154 rfl rfl (by decide) rfl ?_
          refine q_norm [1, 2, 3, 0, 4, 5] rfl ?_
          refine q_goto (tgt := 287) C dX8_ways_157 (by decide) ?_
          refine q_norm [0, 1, 2, 3] rfl ?_
          exact W8_ways_287 C hr n (B8_ways_102 n n9) ih v1 v2 (v3 + (-1)) S22 h
def B8_ways_72 (n : Nat) (v1 : Int32) (S : qSt) : Option (Int32 × qSt) := obs (qup S 122 (0 : Int32).toNatClampNeg (S 114 (2 : Int32).toNatClampNeg)) fun S6 => obs (qup S6 123 (0 : Int32).toNatClampNeg (0 : Int32)) fun S7 => obs (qup S7 124 (0 : Int32).toNatClampNeg (0 : Int32)) fun S8 => B8_ways_102 n n v1 0 0 S8
set_option maxRecDepth 100000 in
set_option maxHeartbeats 4000000 in
theorem W8_ways_72 {r : Int32} {S2 : qSt} (C : qC g cX8_ways RX8 6 p s m meth c) (hr : meth.sig.returnType = (some .int)) (n : Nat) (v1 : Int32) (S : qSt) (h : B8_ways_72 n v1 S = some (r, S2)) : qR g NL qT 6 p l e rmX8_ways s m args below meth c 0 0 (MQ below (qQi g NL qT (qmem g S2) r) args s 0 0 (qA g)) (qmem g S) 72 [(0, .ref (qa g 111)), (1, .int v1)] [] := by
  unfold B8_ways_72 at h
  refine q_iconst (v := 0) C dX8_ways_72 (by decide) ?_
  refine q_istore_n C (lv' := [(2, .int 0), (0, .ref (qa g 111)), (1, .int v1)]) dX8_ways_73 rfl (by decide) rfl ?_
  refine q_norm [1, 2, 0] rfl ?_
  refine q_iconst (v := 0) C dX8_ways_74 (by decide) ?_
  refine q_istore_n C (lv' := [(3, .int 0), (0, .ref (qa g 111)), (1, .int v1), (2, .int 0)]) dX8_ways_75 rfl (by decide) rfl ?_
  refine q_norm [1, 2, 3, 0] rfl ?_
  refine q_aload_n C 0 dX8_ways_76 rfl rfl ?_
  refine s_getr (a := 122) C lf8_41 ltp_111 kd_111 rfl dX8_ways_77 ?_
  refine q_iconst (v := 0) C dX8_ways_80 (by decide) ?_
  refine q_aload_n C 0 dX8_ways_81 rfl rfl ?_
  refine s_getr (a := 114) C lf8_16 ltp_111 kd_111 rfl dX8_ways_82 ?_
  refine q_iconst (v := 2) C dX8_ways_85 (by decide) ?_
  refine s_iald C ltp_114 kd_114 (by decide) dX8_ways_86 ?_
  obtain ⟨S6, hS6, h⟩ := obs_e h
  refine s_iast C ltp_122 kd_122 (by decide) dX8_ways_87 ?_
  rw [← hS6]
  refine q_aload_n C 0 dX8_ways_88 rfl rfl ?_
  refine s_getr (a := 123) C lf8_44 ltp_111 kd_111 rfl dX8_ways_89 ?_
  refine q_iconst (v := 0) C dX8_ways_92 (by decide) ?_
  refine q_iconst (v := 0) C dX8_ways_93 (by decide) ?_
  obtain ⟨S7, hS7, h⟩ := obs_e h
  refine s_iast C ltp_123 kd_123 (by decide) dX8_ways_94 ?_
  rw [← hS7]
  refine q_aload_n C 0 dX8_ways_95 rfl rfl ?_
  refine s_getr (a := 124) C lf8_47 ltp_111 kd_111 rfl dX8_ways_96 ?_
  refine q_iconst (v := 0) C dX8_ways_99 (by decide) ?_
  refine q_iconst (v := 0) C dX8_ways_100 (by decide) ?_
  obtain ⟨S8, hS8, h⟩ := obs_e h
  refine s_iast C ltp_124 kd_124 (by decide) dX8_ways_101 ?_
  rw [← hS8]
  exact W8_ways_102 C hr n n v1 0 0 S8 h
def B8_ways_65 (n : Nat) (K39 : Int32 → Int32 → qSt → Option (Int32 × qSt)) (v1 : Int32) (v2 : Int32) (t1 : Int32) (t2 : Int32) (S : qSt) : Option (Int32 × qSt) := if qin t1 9 = true then obs (qup S 125 t1.toNatClampNeg (t2 &&& 1)) fun S24 => K39 v1 (v2 + 1) S24 else none
set_option maxRecDepth 100000 in
set_option maxHeartbeats 4000000 in
theorem W8_ways_65 {r : Int32} {S2 : qSt} (C : qC g cX8_ways RX8 6 p s m meth c) (hr : meth.sig.returnType = (some .int)) (n : Nat) (K39 : Int32 → Int32 → qSt → Option (Int32 × qSt)) (hK39 : ∀ (v1 : Int32) (v2 : Int32) (S : qSt), K39 v1 v2 S = some (r, S2) → qR g NL qT 6 p l e rmX8_ways s m args below meth c 0 0 (MQ below (qQi g NL qT (qmem g S2) r) args s 0 0 (qA g)) (qmem g S) 39 [(0, .ref (qa g 111)), (1, .int v1), (2, .int v2)] []) (v1 : Int32) (v2 : Int32) (t1 : Int32) (t2 : Int32) (S : qSt) (h : B8_ways_65 n K39 v1 v2 t1 t2 S = some (r, S2)) : qR g NL qT 6 p l e rmX8_ways s m args below meth c 0 0 (MQ below (qQi g NL qT (qmem g S2) r) args s 0 0 (qA g)) (qmem g S) 65 [(0, .ref (qa g 111)), (1, .int v1), (2, .int v2)] [.int t2, .int t1, .ref (qa g 125)] := by
  unfold B8_ways_65 at h
  obtain ⟨hb23, h⟩ := q_if h
  obtain ⟨S24, hS24, h⟩ := obs_e h
  refine s_zast C ltp_125 kd_125 hb23 dX8_ways_65 ?_
  rw [← hS24]
  refine q_iinc C 2 (v := v2 + 1) (lv' := [(2, .int (v2 + 1)), (0, .ref (qa g 111)), (1, .int v1)]) dX8_ways_66 rfl rfl (by decide) rfl ?_
  refine q_norm [1, 2, 0] rfl ?_
  refine q_goto (tgt := 39) C dX8_ways_69 (by decide) ?_
  exact hK39 v1 (v2 + 1) S24 h
def B8_ways_39 (n : Nat) : Nat → Int32 → Int32 → qSt → Option (Int32 × qSt)
  | 0, _, _, _ => none
  | n9 + 1, v1, v2, S => if 9 ≤ v2 then (B8_ways_72 n v1 S) else (if ¬ v2 = (S 114 (2 : Int32).toNatClampNeg) then (B8_ways_65 n (B8_ways_39 n n9) v1 v2 v2 0 S) else (B8_ways_65 n (B8_ways_39 n n9) v1 v2 v2 1 S))
set_option maxRecDepth 100000 in
set_option maxHeartbeats 4000000 in
theorem W8_ways_39 {r : Int32} {S2 : qSt} (C : qC g cX8_ways RX8 6 p s m meth c) (hr : meth.sig.returnType = (some .int)) (n : Nat) : ∀ (n9 : Nat) (v1 : Int32) (v2 : Int32) (S : qSt), B8_ways_39 n n9 v1 v2 S = some (r, S2) → qR g NL qT 6 p l e rmX8_ways s m args below meth c 0 0 (MQ below (qQi g NL qT (qmem g S2) r) args s 0 0 (qA g)) (qmem g S) 39 [(0, .ref (qa g 111)), (1, .int v1), (2, .int v2)] [] := by
  intro n9
  induction n9 with
  | zero =>
    intro v1 v2 S h
    have h9 : (none : Option (Int32 × qSt)) = some (r, S2) := h
    cases h9
  | succ n9 ih =>
    intro v1 v2 S h
    rw [B8_ways_39] at h
    refine q_iload_n C 2 dX8_ways_39 rfl rfl ?_
    refine q_bipush (v := 9) C dX8_ways_40 (by decide) ?_
    refine q_icmp_ge (tgt := 72) C h dX8_ways_42 (by decide) (fun h => ?_) (fun h => ?_)
    · refine q_norm [0, 1] rfl ?_
      exact W8_ways_72 C hr n v1 S h
    · refine q_aload_n C 0 dX8_ways_45 rfl rfl ?_
      refine s_getr (a := 125) C lf8_50 ltp_111 kd_111 rfl dX8_ways_46 ?_
      refine q_iload_n C 2 dX8_ways_49 rfl rfl ?_
      refine q_iload_n C 2 dX8_ways_50 rfl rfl ?_
      refine q_aload_n C 0 dX8_ways_51 rfl rfl ?_
      refine s_getr (a := 114) C lf8_16 ltp_111 kd_111 rfl dX8_ways_52 ?_
      refine q_iconst (v := 2) C dX8_ways_55 (by decide) ?_
      refine s_iald C ltp_114 kd_114 (by decide) dX8_ways_56 ?_
      refine q_icmp_ne (tgt := 64) C h dX8_ways_57 (by decide) (fun h => ?_) (fun h => ?_)
      · refine q_iconst (v := 0) C dX8_ways_64 (by decide) ?_
        exact W8_ways_65 C hr n (B8_ways_39 n n9) ih v1 v2 v2 0 S h
      · refine q_iconst (v := 1) C dX8_ways_60 (by decide) ?_
        refine q_goto (tgt := 65) C dX8_ways_61 (by decide) ?_
        exact W8_ways_65 C hr n (B8_ways_39 n n9) ih v1 v2 v2 1 S h
def B8_ways_18 (n : Nat) (v1 : Int32) (t1 : Int32) (S : qSt) : Option (Int32 × qSt) := ob2 (F8_refused t1 S) fun r2 S3 => if r2 = 0 then (ob1 (F8_layCosts n 114 (-999) S3) fun S5 => B8_ways_39 n n v1 0 S5) else (some (0, S3))
set_option maxRecDepth 100000 in
set_option maxHeartbeats 4000000 in
theorem W8_ways_18 {r : Int32} {S2 : qSt} (C : qC g cX8_ways RX8 6 p s m meth c) (hr : meth.sig.returnType = (some .int)) (n : Nat) (v1 : Int32) (t1 : Int32) (S : qSt) (h : B8_ways_18 n v1 t1 S = some (r, S2)) : qR g NL qT 6 p l e rmX8_ways s m args below meth c 0 0 (MQ below (qQi g NL qT (qmem g S2) r) args s 0 0 (qA g)) (qmem g S) 18 [(0, .ref (qa g 111)), (1, .int v1)] [.int t1, .ref (qa g 111)] := by
  unfold B8_ways_18 at h
  obtain ⟨r2, S3, hc1, h⟩ := ob2_e h
  refine q_callVi0 C ltp_111 (qmem_o kd_111 (Nat.le_of_ble_eq_true rfl)) rfl rfl (kX8_refused t1 S hc1) lm8_103 rfl (rest := []) rfl (Nat.le_of_ble_eq_true rfl) dX8_ways_18 ⟨rfl, rfl, Nat.le_of_ble_eq_true rfl, Nat.le_of_ble_eq_true rfl, Nat.le_of_ble_eq_true rfl, Nat.le_of_ble_eq_true rfl⟩ ?_
  refine q_if_eq (tgt := 26) C h dX8_ways_21 (by decide) (fun h => ?_) (fun h => ?_)
  · refine q_aload_n C 0 dX8_ways_26 rfl rfl ?_
    refine q_aload_n C 0 dX8_ways_27 rfl rfl ?_
    refine s_getr (a := 114) C lf8_16 ltp_111 kd_111 rfl dX8_ways_28 ?_
    refine q_sipush (v := (-999)) C dX8_ways_31 (by decide) ?_
    obtain ⟨S5, hc4, h⟩ := ob1_e h
    refine q_callVv0 C ltp_111 (qmem_o kd_111 (Nat.le_of_ble_eq_true rfl)) rfl rfl (kX8_layCosts n 114 (tyI_114) (-999) S3 hc4) lm8_81 rfl (rest := []) rfl (Nat.le_of_ble_eq_true rfl) dX8_ways_34 ⟨rfl, rfl, Nat.le_of_ble_eq_true rfl, Nat.le_of_ble_eq_true rfl, Nat.le_of_ble_eq_true rfl, Nat.le_of_ble_eq_true rfl⟩ ?_
    refine q_iconst (v := 0) C dX8_ways_37 (by decide) ?_
    refine q_istore_n C (lv' := [(2, .int 0), (0, .ref (qa g 111)), (1, .int v1)]) dX8_ways_38 rfl (by decide) rfl ?_
    refine q_norm [1, 2, 0] rfl ?_
    exact W8_ways_39 C hr n n v1 0 S5 h
  · refine q_iconst (v := 0) C dX8_ways_24 (by decide) ?_
    obtain ⟨rfl, rfl⟩ := Prod.mk.inj (Option.some.inj h)
    exact q_iret C hr (Nat.le_refl 0) (Nat.le_refl 0) dX8_ways_25
def F8_ways (n : Nat) (v1 : Int32) (S : qSt) : Option (Int32 × qSt) := if (F8_in v1.toInt64 0 999 S) = 0 then (B8_ways_18 n v1 1 S) else (B8_ways_18 n v1 0 S)
set_option maxRecDepth 100000 in
set_option maxHeartbeats 4000000 in
theorem kX8_ways {l : Launch} {g : qG} (n : Nat) (v1 : Int32) (S : qSt) {r : Int32} {S2 : qSt} (h : F8_ways n v1 S = some (r, S2)) : Met l yX8_ways [.code yX8_ways cX8_ways 6 (some .int)] rmX8_ways (qPc g NL qT (qmem g S) [.ref (qa g 111), .int v1]) (qQi g NL qT (qmem g S2) r) 0 0 (qA g) := by
  refine q_met (by decide) (Nat.le_of_ble_eq_true rfl) (fun p e s m args below meth c C hr _ => ?_)
  have C : qC g cX8_ways RX8 6 p s m meth c := C
  show qR g NL qT 6 p l e rmX8_ways s m args below meth c 0 0 (MQ below (qQi g NL qT (qmem g S2) r) args s 0 0 (qA g)) (qmem g S) 0 [(0, .ref (qa g 111)), (1, .int v1)] []
  unfold F8_ways at h
  refine q_aload_n C 0 dX8_ways_0 rfl rfl ?_
  refine q_iload_n C 1 dX8_ways_1 rfl rfl ?_
  refine q_i2l C dX8_ways_2 rfl ?_
  refine q_lconst (v := 0) C dX8_ways_3 (by decide) ?_
  refine q_ldc2 (v := 999) C lc8_204 dX8_ways_4 ?_
  refine q_callSi0 C (kX8_in v1.toInt64 0 999 S) lm8_65 rfl (rest := [.ref (qa g 111)]) rfl (Nat.le_of_ble_eq_true rfl) dX8_ways_7 ⟨rfl, rfl, Nat.le_of_ble_eq_true rfl, Nat.le_of_ble_eq_true rfl, Nat.le_of_ble_eq_true rfl, Nat.le_of_ble_eq_true rfl⟩ ?_
  refine q_if_eq (tgt := 17) C h dX8_ways_10 (by decide) (fun h => ?_) (fun h => ?_)
  · refine q_iconst (v := 1) C dX8_ways_17 (by decide) ?_
    exact W8_ways_18 C hr n v1 1 S h
  · refine q_iconst (v := 0) C dX8_ways_13 (by decide) ?_
    refine q_goto (tgt := 18) C dX8_ways_14 (by decide) ?_
    exact W8_ways_18 C hr n v1 0 S h
/-! ClosedStreetsModel.middle -/
abbrev rmX8_middle : Room := { frames := 2, cells := 0, slots := 0, locals := 80 }
def B8_middle_126 (n : Nat) (K20 : Int32 → Int32 → Int32 → qSt → Option (Int32 × qSt)) (v1 : Int32) (v3 : Int32) (t0 : Int32) (S : qSt) : Option (Int32 × qSt) := K20 v1 t0 (v3 + 1) S
set_option maxRecDepth 100000 in
set_option maxHeartbeats 4000000 in
theorem W8_middle_126 {r : Int32} {S2 : qSt} (C : qC g cX8_middle RX8 7 p s m meth c) (hr : meth.sig.returnType = (some .int)) (n : Nat) (K20 : Int32 → Int32 → Int32 → qSt → Option (Int32 × qSt)) (hK20 : ∀ (v1 : Int32) (v2 : Int32) (v3 : Int32) (S : qSt), K20 v1 v2 v3 S = some (r, S2) → qR g NL qT 7 p l e rmX8_middle s m args below meth c 0 0 (MQ below (qQi g NL qT (qmem g S2) r) args s 0 0 (qA g)) (qmem g S) 20 [(0, .ref (qa g 111)), (1, .int v1), (2, .int v2), (3, .int v3)] []) (v1 : Int32) (v3 : Int32) (t0 : Int32) (S : qSt) (h : B8_middle_126 n K20 v1 v3 t0 S = some (r, S2)) : qR g NL qT 7 p l e rmX8_middle s m args below meth c 0 0 (MQ below (qQi g NL qT (qmem g S2) r) args s 0 0 (qA g)) (qmem g S) 126 [(0, .ref (qa g 111)), (1, .int v1), (3, .int v3)] [.int t0] := by
  unfold B8_middle_126 at h
  refine q_istore_n C (lv' := [(2, .int t0), (0, .ref (qa g 111)), (1, .int v1), (3, .int v3)]) dX8_middle_126 rfl (by decide) rfl ?_
  refine q_norm [1, 2, 0, 3] rfl ?_
  refine q_iinc C 3 (v := v3 + 1) (lv' := [(3, .int (v3 + 1)), (0, .ref (qa g 111)), (1, .int v1), (2, .int t0)]) dX8_middle_127 rfl rfl (by decide) rfl ?_
  refine q_norm [1, 2, 3, 0] rfl ?_
  refine q_goto (tgt := 20) C dX8_middle_130 (by decide) ?_
  exact hK20 v1 t0 (v3 + 1) S h
def B8_middle_113 (n : Nat) (K20 : Int32 → Int32 → Int32 → qSt → Option (Int32 × qSt)) (v2 : Int32) (v3 : Int32) (v4 : Int32) (t0 : Int32) (S : qSt) : Option (Int32 × qSt) := if v2 ≤ v4 then (B8_middle_126 n K20 t0 v3 v2 S) else (B8_middle_126 n K20 t0 v3 v4 S)
set_option maxRecDepth 100000 in
set_option maxHeartbeats 4000000 in
theorem W8_middle_113 {r : Int32} {S2 : qSt} (C : qC g cX8_middle RX8 7 p s m meth c) (hr : meth.sig.returnType = (some .int)) (n : Nat) (K20 : Int32 → Int32 → Int32 → qSt → Option (Int32 × qSt)) (hK20 : ∀ (v1 : Int32) (v2 : Int32) (v3 : Int32) (S : qSt), K20 v1 v2 v3 S = some (r, S2) → qR g NL qT 7 p l e rmX8_middle s m args below meth c 0 0 (MQ below (qQi g NL qT (qmem g S2) r) args s 0 0 (qA g)) (qmem g S) 20 [(0, .ref (qa g 111)), (1, .int v1), (2, .int v2), (3, .int v3)] []) (v2 : Int32) (v3 : Int32) (v4 : Int32) (t0 : Int32) (S : qSt) (h : B8_middle_113 n K20 v2 v3 v4 t0 S = some (r, S2)) : qR g NL qT 7 p l e rmX8_middle s m args below meth c 0 0 (MQ below (qQi g NL qT (qmem g S2) r) args s 0 0 (qA g)) (qmem g S) 113 [(0, .ref (qa g 111)), (2, .int v2), (3, .int v3), (4, .int v4)] [.int t0] := by
  unfold B8_middle_113 at h
  refine q_istore_n C (lv' := [(1, .int t0), (0, .ref (qa g 111)), (2, .int v2), (3, .int v3), (4, .int v4)]) dX8_middle_113 rfl (by decide) rfl ?_
  refine q_norm [1, 0, 2, 3, 4] rfl ?_
  refine q_iload C 4 dX8_middle_114 rfl ?_
  refine q_iload_n C 2 dX8_middle_116 rfl rfl ?_
  refine q_icmp_ge (tgt := 125) C h dX8_middle_117 (by decide) (fun h => ?_) (fun h => ?_)
  · refine q_iload_n C 2 dX8_middle_125 rfl rfl ?_
    refine q_norm [0, 1, 3] rfl ?_
    exact W8_middle_126 C hr n K20 hK20 t0 v3 v2 S h
  · refine q_iload C 4 dX8_middle_120 rfl ?_
    refine q_goto (tgt := 126) C dX8_middle_122 (by decide) ?_
    refine q_norm [0, 1, 3] rfl ?_
    exact W8_middle_126 C hr n K20 hK20 t0 v3 v4 S h
def B8_middle_102 (n : Nat) (K20 : Int32 → Int32 → Int32 → qSt → Option (Int32 × qSt)) (v1 : Int32) (v2 : Int32) (v3 : Int32) (v4 : Int32) (S : qSt) : Option (Int32 × qSt) := if v2 ≤ v4 then (B8_middle_113 n K20 v2 v3 v4 v1 S) else (B8_middle_113 n K20 v2 v3 v4 v3 S)
set_option maxRecDepth 100000 in
set_option maxHeartbeats 4000000 in
theorem W8_middle_102 {r : Int32} {S2 : qSt} (C : qC g cX8_middle RX8 7 p s m meth c) (hr : meth.sig.returnType = (some .int)) (n : Nat) (K20 : Int32 → Int32 → Int32 → qSt → Option (Int32 × qSt)) (hK20 : ∀ (v1 : Int32) (v2 : Int32) (v3 : Int32) (S : qSt), K20 v1 v2 v3 S = some (r, S2) → qR g NL qT 7 p l e rmX8_middle s m args below meth c 0 0 (MQ below (qQi g NL qT (qmem g S2) r) args s 0 0 (qA g)) (qmem g S) 20 [(0, .ref (qa g 111)), (1, .int v1), (2, .int v2), (3, .int v3)] []) (v1 : Int32) (v2 : Int32) (v3 : Int32) (v4 : Int32) (S : qSt) (h : B8_middle_102 n K20 v1 v2 v3 v4 S = some (r, S2)) : qR g NL qT 7 p l e rmX8_middle s m args below meth c 0 0 (MQ below (qQi g NL qT (qmem g S2) r) args s 0 0 (qA g)) (qmem g S) 102 [(0, .ref (qa g 111)), (1, .int v1), (2, .int v2), (3, .int v3), (4, .int v4)] [] := by
  unfold B8_middle_102 at h
  refine q_iload C 4 dX8_middle_102 rfl ?_
  refine q_iload_n C 2 dX8_middle_104 rfl rfl ?_
  refine q_icmp_ge (tgt := 112) C h dX8_middle_105 (by decide) (fun h => ?_) (fun h => ?_)
  · refine q_iload_n C 1 dX8_middle_112 rfl rfl ?_
    refine q_norm [0, 2, 3, 4] rfl ?_
    exact W8_middle_113 C hr n K20 hK20 v2 v3 v4 v1 S h
  · refine q_iload_n C 3 dX8_middle_108 rfl rfl ?_
    refine q_goto (tgt := 113) C dX8_middle_109 (by decide) ?_
    refine q_norm [0, 2, 3, 4] rfl ?_
    exact W8_middle_113 C hr n K20 hK20 v2 v3 v4 v3 S h
def B8_middle_94 (n : Nat) (K20 : Int32 → Int32 → Int32 → qSt → Option (Int32 × qSt)) (K45 : Int32 → Int32 → Int32 → Int32 → Int32 → qSt → Option (Int32 × qSt)) (v1 : Int32) (v2 : Int32) (v3 : Int32) (v5 : Int32) (t0 : Int32) (S : qSt) : Option (Int32 × qSt) := K45 v1 v2 v3 t0 (v5 + 1) S
set_option maxRecDepth 100000 in
set_option maxHeartbeats 4000000 in
theorem W8_middle_94 {r : Int32} {S2 : qSt} (C : qC g cX8_middle RX8 7 p s m meth c) (hr : meth.sig.returnType = (some .int)) (n : Nat) (K20 : Int32 → Int32 → Int32 → qSt → Option (Int32 × qSt)) (hK20 : ∀ (v1 : Int32) (v2 : Int32) (v3 : Int32) (S : qSt), K20 v1 v2 v3 S = some (r, S2) → qR g NL qT 7 p l e rmX8_middle s m args below meth c 0 0 (MQ below (qQi g NL qT (qmem g S2) r) args s 0 0 (qA g)) (qmem g S) 20 [(0, .ref (qa g 111)), (1, .int v1), (2, .int v2), (3, .int v3)] []) (K45 : Int32 → Int32 → Int32 → Int32 → Int32 → qSt → Option (Int32 × qSt)) (hK45 : ∀ (v1 : Int32) (v2 : Int32) (v3 : Int32) (v4 : Int32) (v5 : Int32) (S : qSt), K45 v1 v2 v3 v4 v5 S = some (r, S2) → qR g NL qT 7 p l e rmX8_middle s m args below meth c 0 0 (MQ below (qQi g NL qT (qmem g S2) r) args s 0 0 (qA g)) (qmem g S) 45 [(0, .ref (qa g 111)), (1, .int v1), (2, .int v2), (3, .int v3), (4, .int v4), (5, .int v5)] []) (v1 : Int32) (v2 : Int32) (v3 : Int32) (v5 : Int32) (t0 : Int32) (S : qSt) (h : B8_middle_94 n K20 K45 v1 v2 v3 v5 t0 S = some (r, S2)) : qR g NL qT 7 p l e rmX8_middle s m args below meth c 0 0 (MQ below (qQi g NL qT (qmem g S2) r) args s 0 0 (qA g)) (qmem g S) 94 [(0, .ref (qa g 111)), (1, .int v1), (2, .int v2), (3, .int v3), (5, .int v5)] [.int t0] := by
  unfold B8_middle_94 at h
  refine q_istore C (lv' := [(4, .int t0), (0, .ref (qa g 111)), (1, .int v1), (2, .int v2), (3, .int v3), (5, .int v5)]) dX8_middle_94 (by decide) rfl ?_
  refine q_norm [1, 2, 3, 4, 0, 5] rfl ?_
  refine q_iinc C 5 (v := v5 + 1) (lv' := [(5, .int (v5 + 1)), (0, .ref (qa g 111)), (1, .int v1), (2, .int v2), (3, .int v3), (4, .int t0)]) dX8_middle_96 rfl rfl (by decide) rfl ?_
  refine q_norm [1, 2, 3, 4, 5, 0] rfl ?_
  refine q_goto (tgt := 45) C dX8_middle_99 (by decide) ?_
  exact hK45 v1 v2 v3 t0 (v5 + 1) S h
def B8_middle_45 (n : Nat) (K20 : Int32 → Int32 → Int32 → qSt → Option (Int32 × qSt)) : Nat → Int32 → Int32 → Int32 → Int32 → Int32 → qSt → Option (Int32 × qSt)
  | 0, _, _, _, _, _, _ => none
  | n9 + 1, v1, v2, v3, v4, v5, S => if (S 114 (0 : Int32).toNatClampNeg) ≤ v5 then (B8_middle_102 n K20 v1 v2 v3 v4 S) else (if qin v5 9 = true then obs (F8_lengthOf (S 121 v5.toNatClampNeg) S) fun x6 => if ¬ x6 = (-999) then (if x6 ≤ v4 then (B8_middle_94 n K20 (B8_middle_45 n K20 n9) v1 v2 v3 v5 v4 S) else (B8_middle_94 n K20 (B8_middle_45 n K20 n9) v1 v2 v3 v5 x6 S)) else (some ((-999), S)) else none)
set_option maxRecDepth 100000 in
set_option maxHeartbeats 4000000 in
theorem W8_middle_45 {r : Int32} {S2 : qSt} (C : qC g cX8_middle RX8 7 p s m meth c) (hr : meth.sig.returnType = (some .int)) (n : Nat) (K20 : Int32 → Int32 → Int32 → qSt → Option (Int32 × qSt)) (hK20 : ∀ (v1 : Int32) (v2 : Int32) (v3 : Int32) (S : qSt), K20 v1 v2 v3 S = some (r, S2) → qR g NL qT 7 p l e rmX8_middle s m args below meth c 0 0 (MQ below (qQi g NL qT (qmem g S2) r) args s 0 0 (qA g)) (qmem g S) 20 [(0, .ref (qa g 111)), (1, .int v1), (2, .int v2), (3, .int v3)] []) : ∀ (n9 : Nat) (v1 : Int32) (v2 : Int32) (v3 : Int32) (v4 : Int32) (v5 : Int32) (S : qSt), B8_middle_45 n K20 n9 v1 v2 v3 v4 v5 S = some (r, S2) → qR g NL qT 7 p l e rmX8_middle s m args below meth c 0 0 (MQ below (qQi g NL qT (qmem g S2) r) args s 0 0 (qA g)) (qmem g S) 45 [(0, .ref (qa g 111)), (1, .int v1), (2, .int v2), (3, .int v3), (4, .int v4), (5, .int v5)] [] := by
  intro n9
  induction n9 with
  | zero =>
    intro v1 v2 v3 v4 v5 S h
    have h9 : (none : Option (Int32 × qSt)) = some (r, S2) := h
    cases h9
  | succ n9 ih =>
    intro v1 v2 v3 v4 v5 S h
    rw [B8_middle_45] at h
    refine q_iload C 5 dX8_middle_45 rfl ?_
    refine q_aload_n C 0 dX8_middle_47 rfl rfl ?_
    refine s_getr (a := 114) C lf8_16 ltp_111 kd_111 rfl dX8_middle_48 ?_
    refine q_iconst (v := 0) C dX8_middle_51 (by decide) ?_
    refine s_iald C ltp_114 kd_114 (by decide) dX8_middle_52 ?_
    refine q_icmp_ge (tgt := 102) C h dX8_middle_53 (by decide) (fun h => ?_) (fun h => ?_)
    · refine q_norm [0, 1, 2, 3, 4] rfl ?_
      exact W8_middle_102 C hr n K20 hK20 v1 v2 v3 v4 S h
    · refine q_aload_n C 0 dX8_middle_56 rfl rfl ?_
      refine s_getr (a := 121) C lf8_38 ltp_111 kd_111 rfl dX8_middle_57 ?_
      refine q_iload C 5 dX8_middle_60 rfl ?_
      obtain ⟨hb5, h⟩ := q_if h
      refine s_iald C ltp_121 kd_121 hb5 dX8_middle_62 ?_
      refine q_callSi0 C (kX8_lengthOf (S 121 v5.toNatClampNeg) S) lm8_77 rfl (rest := []) rfl (Nat.le_of_ble_eq_true rfl) dX8_middle_63 ⟨rfl, rfl, Nat.le_of_ble_eq_true rfl, Nat.le_of_ble_eq_true rfl, Nat.le_of_ble_eq_true rfl, Nat.le_of_ble_eq_true rfl⟩ ?_
      obtain ⟨x6, hx6, h⟩ := obs_e h
      rw [← hx6]
      refine q_istore C (lv' := [(6, .int x6), (0, .ref (qa g 111)), (1, .int v1), (2, .int v2), (3, .int v3), (4, .int v4), (5, .int v5)]) dX8_middle_66 (by decide) rfl ?_
      refine q_norm [1, 2, 3, 4, 5, 6, 0] rfl ?_
      refine q_iload C 6 dX8_middle_68 rfl ?_
      refine q_sipush (v := (-999)) C dX8_middle_70 (by decide) ?_
      refine q_icmp_ne (tgt := 80) C h dX8_middle_73 (by decide) (fun h => ?_) (fun h => ?_)
      · refine q_iload C 6 dX8_middle_80 rfl ?_
        refine q_iload C 4 dX8_middle_82 rfl ?_
        refine q_icmp_le (tgt := 92) C h dX8_middle_84 (by decide) (fun h => ?_) (fun h => ?_)
        · refine q_iload C 4 dX8_middle_92 rfl ?_
          refine q_norm [0, 1, 2, 3, 5] rfl ?_
          exact W8_middle_94 C hr n K20 hK20 (B8_middle_45 n K20 n9) ih v1 v2 v3 v5 v4 S h
        · refine q_iload C 6 dX8_middle_87 rfl ?_
          refine q_goto (tgt := 94) C dX8_middle_89 (by decide) ?_
          refine q_norm [0, 1, 2, 3, 5] rfl ?_
          exact W8_middle_94 C hr n K20 hK20 (B8_middle_45 n K20 n9) ih v1 v2 v3 v5 x6 S h
      · refine q_sipush (v := (-999)) C dX8_middle_76 (by decide) ?_
        obtain ⟨rfl, rfl⟩ := Prod.mk.inj (Option.some.inj h)
        exact q_iret C hr (Nat.le_refl 0) (Nat.le_refl 0) dX8_middle_79
def B8_middle_20 (n : Nat) : Nat → Int32 → Int32 → Int32 → qSt → Option (Int32 × qSt)
  | 0, _, _, _, _ => none
  | n9 + 1, v1, v2, v3, S => if (S 114 (0 : Int32).toNatClampNeg) ≤ v3 then (some (v1, S)) else (ob1 (F8_layFar n 114 v3 S) fun S4 => B8_middle_45 n (B8_middle_20 n n9) n v1 v2 v3 0 0 S4)
set_option maxRecDepth 100000 in
set_option maxHeartbeats 4000000 in
theorem W8_middle_20 {r : Int32} {S2 : qSt} (C : qC g cX8_middle RX8 7 p s m meth c) (hr : meth.sig.returnType = (some .int)) (n : Nat) : ∀ (n9 : Nat) (v1 : Int32) (v2 : Int32) (v3 : Int32) (S : qSt), B8_middle_20 n n9 v1 v2 v3 S = some (r, S2) → qR g NL qT 7 p l e rmX8_middle s m args below meth c 0 0 (MQ below (qQi g NL qT (qmem g S2) r) args s 0 0 (qA g)) (qmem g S) 20 [(0, .ref (qa g 111)), (1, .int v1), (2, .int v2), (3, .int v3)] [] := by
  intro n9
  induction n9 with
  | zero =>
    intro v1 v2 v3 S h
    have h9 : (none : Option (Int32 × qSt)) = some (r, S2) := h
    cases h9
  | succ n9 ih =>
    intro v1 v2 v3 S h
    rw [B8_middle_20] at h
    refine q_iload_n C 3 dX8_middle_20 rfl rfl ?_
    refine q_aload_n C 0 dX8_middle_21 rfl rfl ?_
    refine s_getr (a := 114) C lf8_16 ltp_111 kd_111 rfl dX8_middle_22 ?_
    refine q_iconst (v := 0) C dX8_middle_25 (by decide) ?_
    refine s_iald C ltp_114 kd_114 (by decide) dX8_middle_26 ?_
    refine q_icmp_ge (tgt := 133) C h dX8_middle_27 (by decide) (fun h => ?_) (fun h => ?_)
    · refine q_iload_n C 1 dX8_middle_133 rfl rfl ?_
      obtain ⟨rfl, rfl⟩ := Prod.mk.inj (Option.some.inj h)
      exact q_iret C hr (Nat.le_refl 0) (Nat.le_refl 0) dX8_middle_134
    · refine q_aload_n C 0 dX8_middle_30 rfl rfl ?_
      refine q_aload_n C 0 dX8_middle_31 rfl rfl ?_
      refine s_getr (a := 114) C lf8_16 ltp_111 kd_111 rfl dX8_middle_32 ?_
      refine q_iload_n C 3 dX8_middle_35 rfl rfl ?_
      obtain ⟨S4, hc3, h⟩ := ob1_e h
      refine q_callVv0 C ltp_111 (qmem_o kd_111 (Nat.le_of_ble_eq_true rfl)) rfl rfl (kX8_layFar n 114 (tyI_114) v3 S hc3) lm8_74 rfl (rest := []) rfl (Nat.le_of_ble_eq_true rfl) dX8_middle_36 ⟨rfl, rfl, Nat.le_of_ble_eq_true rfl, Nat.le_of_ble_eq_true rfl, Nat.le_of_ble_eq_true rfl, Nat.le_of_ble_eq_true rfl⟩ ?_
      refine q_iconst (v := 0) C dX8_middle_39 (by decide) ?_
      refine q_istore C (lv' := [(4, .int 0), (0, .ref (qa g 111)), (1, .int v1), (2, .int v2), (3, .int v3)]) dX8_middle_40 (by decide) rfl ?_
      refine q_norm [1, 2, 3, 4, 0] rfl ?_
      refine q_iconst (v := 0) C dX8_middle_42 (by decide) ?_
      refine q_istore C (lv' := [(5, .int 0), (0, .ref (qa g 111)), (1, .int v1), (2, .int v2), (3, .int v3), (4, .int 0)]) dX8_middle_43 (by decide) rfl ?_
      refine q_norm [1, 2, 3, 4, 5, 0] rfl ?_
      exact W8_middle_45 C hr n (B8_middle_20 n n9) ih n v1 v2 v3 0 0 S4 h
def F8_middle (n : Nat) (S : qSt) : Option (Int32 × qSt) := ob1 (F8_layCosts n 114 (-999) S) fun S2 => B8_middle_20 n n (-999) 1000000 0 S2
set_option maxRecDepth 100000 in
set_option maxHeartbeats 4000000 in
theorem kX8_middle {l : Launch} {g : qG} (n : Nat) (S : qSt) {r : Int32} {S2 : qSt} (h : F8_middle n S = some (r, S2)) : Met l yX8_middle [.code yX8_middle cX8_middle 7 (some .int)] rmX8_middle (qPc g NL qT (qmem g S) [.ref (qa g 111)]) (qQi g NL qT (qmem g S2) r) 0 0 (qA g) := by
  refine q_met (by decide) (Nat.le_of_ble_eq_true rfl) (fun p e s m args below meth c C hr _ => ?_)
  have C : qC g cX8_middle RX8 7 p s m meth c := C
  show qR g NL qT 7 p l e rmX8_middle s m args below meth c 0 0 (MQ below (qQi g NL qT (qmem g S2) r) args s 0 0 (qA g)) (qmem g S) 0 [(0, .ref (qa g 111))] []
  unfold F8_middle at h
  refine q_aload_n C 0 dX8_middle_0 rfl rfl ?_
  refine q_aload_n C 0 dX8_middle_1 rfl rfl ?_
  refine s_getr (a := 114) C lf8_16 ltp_111 kd_111 rfl dX8_middle_2 ?_
  refine q_sipush (v := (-999)) C dX8_middle_5 (by decide) ?_
  obtain ⟨S2, hc1, h⟩ := ob1_e h
  refine q_callVv0 C ltp_111 (qmem_o kd_111 (Nat.le_of_ble_eq_true rfl)) rfl rfl (kX8_layCosts n 114 (tyI_114) (-999) S hc1) lm8_81 rfl (rest := []) rfl (Nat.le_of_ble_eq_true rfl) dX8_middle_8 ⟨rfl, rfl, Nat.le_of_ble_eq_true rfl, Nat.le_of_ble_eq_true rfl, Nat.le_of_ble_eq_true rfl, Nat.le_of_ble_eq_true rfl⟩ ?_
  refine q_sipush (v := (-999)) C dX8_middle_11 (by decide) ?_
  refine q_istore_n C (lv' := [(1, .int (-999)), (0, .ref (qa g 111))]) dX8_middle_14 rfl (by decide) rfl ?_
  refine q_norm [1, 0] rfl ?_
  refine q_ldc (v := 1000000) C lc8_73 dX8_middle_15 ?_
  refine q_istore_n C (lv' := [(2, .int 1000000), (0, .ref (qa g 111)), (1, .int (-999))]) dX8_middle_17 rfl (by decide) rfl ?_
  refine q_norm [1, 2, 0] rfl ?_
  refine q_iconst (v := 0) C dX8_middle_18 (by decide) ?_
  refine q_istore_n C (lv' := [(3, .int 0), (0, .ref (qa g 111)), (1, .int (-999)), (2, .int 1000000)]) dX8_middle_19 rfl (by decide) rfl ?_
  refine q_norm [1, 2, 3, 0] rfl ?_
  exact W8_middle_20 C hr n n (-999) 1000000 0 S2 h
/-! ClosedStreetsModel.tryGroup -/
abbrev rmX8_tryGroup : Room := { frames := 4, cells := 0, slots := 0, locals := 160 }
def B8_tryGroup_191 (n : Nat) (v4 : Int32) (v5 : Int32) (S : qSt) : Option (Int32 × qSt) := if qin (64 + v5) 84 = true then obs (qup S 115 (64 + v5).toNatClampNeg (v4 / 10)) fun S26 => some (1, S26) else none
set_option maxRecDepth 100000 in
set_option maxHeartbeats 4000000 in
theorem W8_tryGroup_191 {r : Int32} {S2 : qSt} (C : qC g cX8_tryGroup RX8 8 p s m meth c) (hr : meth.sig.returnType = (some .boolean)) (n : Nat) (v4 : Int32) (v5 : Int32) (S : qSt) (h : B8_tryGroup_191 n v4 v5 S = some (r, S2)) : qR g NL qT 8 p l e rmX8_tryGroup s m args below meth c 0 0 (MQ below (qQi g NL qT (qmem g S2) r) args s 0 0 (qA g)) (qmem g S) 191 [(0, .ref (qa g 111)), (4, .int v4), (5, .int v5)] [] := by
  unfold B8_tryGroup_191 at h
  refine q_aload_n C 0 dX8_tryGroup_191 rfl rfl ?_
  refine s_getr (a := 115) C lf8_19 ltp_111 kd_111 rfl dX8_tryGroup_192 ?_
  refine q_bipush (v := 64) C dX8_tryGroup_195 (by decide) ?_
  refine q_iload C 2 dX8_tryGroup_197 rfl ?_
  refine q_iadd C dX8_tryGroup_199 ?_
  refine q_iload C 1 dX8_tryGroup_200 rfl ?_
  refine q_bipush (v := 10) C dX8_tryGroup_202 (by decide) ?_
  refine q_idiv C dX8_tryGroup_204 (by decide) ?_
  obtain ⟨hb25, h⟩ := q_if h
  obtain ⟨S26, hS26, h⟩ := obs_e h
  refine s_iast C ltp_115 kd_115 hb25 dX8_tryGroup_205 ?_
  rw [← hS26]
  refine q_iconst (v := 1) C dX8_tryGroup_206 (by decide) ?_
  obtain ⟨rfl, rfl⟩ := Prod.mk.inj (Option.some.inj h)
  exact q_zret C hr (by decide) (Nat.le_refl 0) (Nat.le_refl 0) dX8_tryGroup_207
def F8_tryGroup (n : Nat) (v1 : Int32) (v2 : Int32) (v3 : Int32) (v4 : Int32) (S : qSt) : Option (Int32 × qSt) := if v1 = 1 then (ob1 (F8_whyNotBuild n 115 v2 v3 v4 S) fun r11 => if ¬ r11 = 0 then (some (0, S)) else (ob2 (F8_build 115 v2 v3 v4 S) fun r13 S14 => if r13 < 0 then (some (0, S14)) else (some (1, S14)))) else if v1 = 2 then (if 0 < v4 then (some (0, S)) else (ob1 (F8_isStreet 115 ((10 * v2) + v3) S) fun r16 => if ¬ r16 = 0 then (ob1 (F8_tearDown n 115 ((10 * v2) + v3) S) fun S18 => some (1, S18)) else (some (0, S)))) else if v1 = 3 then (ob1 (F8_isStreet 115 ((10 * v2) + v3) S) fun r20 => if r20 = 0 then (some (0, S)) else (if ¬ v4 = 0 then (if qin (44 + ((10 * v2) + v3)) 84 = true then obs (qup S 115 (44 + ((10 * v2) + v3)).toNatClampNeg v4) fun S22 => some (1, S22) else none) else (some (0, S)))) else if v1 = 4 then (ob1 (F8_isStreet 115 ((10 * v2) + v3) S) fun r24 => if r24 = 0 then (some (0, S)) else (if v4 = 0 then (B8_tryGroup_191 n v4 ((10 * v2) + v3) S) else (if v4 = 10 then (B8_tryGroup_191 n v4 ((10 * v2) + v3) S) else (some (0, S))))) else if v1 = 5 then (if 0 < v4 then (some (0, S)) else (if v2 = v3 then (some (0, S)) else (ob1 (F8_isCrossing 115 v2 S) fun r28 => if r28 = 0 then (some (0, S)) else (ob1 (F8_isCrossing 115 v3 S) fun r30 => if ¬ r30 = 0 then (obs (qup S 115 (2 : Int32).toNatClampNeg v2) fun S31 => obs (qup S31 115 (3 : Int32).toNatClampNeg v3) fun S32 => some (1, S32)) else (some (0, S)))))) else if v1 = 6 then (ob2 (F8_bestBut n 115 (-999) S) fun r34 S35 => if ¬ v2 = 0 then (some (0, S35)) else (if r34 = (-999) then (some (0, S35)) else (if ((100 * v3) + v4) < r34 then (some (0, S35)) else (some (1, S35))))) else if v1 = 7 then (ob2 (F8_layWay n 115 (-999) S) fun r37 S38 => if ¬ v4 = 0 then (some (0, S38)) else (ob1 (F8_isStreet 115 ((10 * v2) + v3) S38) fun r40 => if r40 = 0 then (some (0, S38)) else (if qin (64 + ((10 * v2) + v3)) 84 = true then if ¬ (S38 115 (64 + ((10 * v2) + v3)).toNatClampNeg) = 0 then (some (0, S38)) else (ob1 (F8_isOfWay n 115 ((10 * v2) + v3) S38) fun r43 => if r43 = 0 then (some (0, S38)) else (some (1, S38))) else none))) else if v1 = 8 then (if ¬ ((10 * v2) + v3) = 0 then (some (0, S)) else (if 10 ≤ v4 then (some (0, S)) else (ob2 (F8_layWay n 115 (-999) S) fun r45 S46 => if r45 = (-999) then (some (0, S46)) else (if v4 < ((S46 111 15) - 1) then (some (0, S46)) else (some (1, S46)))))) else if v1 = 9 then (if 0 < v3 then (some (0, S)) else (ob1 (F8_isCrossing 115 v2 S) fun r48 => if ¬ r48 = 0 then (ob1 (F8_layCosts n 115 (-999) S) fun S50 => ob1 (F8_layFar n 115 (S50 115 (2 : Int32).toNatClampNeg) S50) fun S52 => if qin v2 9 = true then obs (F8_lengthOf (S52 121 v2.toNatClampNeg) S52) fun x54 => if x54 = (-999) then (some (0, S52)) else (if v4 < x54 then (some (0, S52)) else (some (1, S52))) else none) else (some (0, S)))) else (some (0, S))
set_option maxRecDepth 100000 in
set_option maxHeartbeats 4000000 in
theorem kX8_tryGroup {l : Launch} {g : qG} (n : Nat) (v1 : Int32) (v2 : Int32) (v3 : Int32) (v4 : Int32) (S : qSt) {r : Int32} {S2 : qSt} (h : F8_tryGroup n v1 v2 v3 v4 S = some (r, S2)) : Met l yX8_tryGroup [.code yX8_tryGroup cX8_tryGroup 8 (some .boolean)] rmX8_tryGroup (qPc g NL qT (qmem g S) [.ref (qa g 111), .int v1, .int v2, .int v3, .int v4]) (qQi g NL qT (qmem g S2) r) 0 0 (qA g) := by
  refine q_met (by decide) (Nat.le_of_ble_eq_true rfl) (fun p e s m args below meth c C hr _ => ?_)
  have C : qC g cX8_tryGroup RX8 8 p s m meth c := C
  show qR g NL qT 8 p l e rmX8_tryGroup s m args below meth c 0 0 (MQ below (qQi g NL qT (qmem g S2) r) args s 0 0 (qA g)) (qmem g S) 0 [(0, .ref (qa g 111)), (1, .int v1), (2, .int v2), (3, .int v3), (4, .int v4)] []
  unfold F8_tryGroup at h
  refine q_bipush (v := 10) C dX8_tryGroup_0 (by decide) ?_
  refine q_iload_n C 2 dX8_tryGroup_2 rfl rfl ?_
  refine q_imul C dX8_tryGroup_3 ?_
  refine q_iload_n C 3 dX8_tryGroup_4 rfl rfl ?_
  refine q_iadd C dX8_tryGroup_5 ?_
  refine q_istore C (lv' := [(5, .int ((10 * v2) + v3)), (0, .ref (qa g 111)), (1, .int v1), (2, .int v2), (3, .int v3), (4, .int v4)]) dX8_tryGroup_6 (by decide) rfl ?_
  refine q_norm [1, 2, 3, 4, 5, 0] rfl ?_
  refine q_bipush (v := 100) C dX8_tryGroup_8 (by decide) ?_
  refine q_iload_n C 3 dX8_tryGroup_10 rfl rfl ?_
  refine q_imul C dX8_tryGroup_11 ?_
  refine q_iload C 4 dX8_tryGroup_12 rfl ?_
  refine q_iadd C dX8_tryGroup_14 ?_
  refine q_istore C (lv' := [(6, .int ((100 * v3) + v4)), (0, .ref (qa g 111)), (1, .int v1), (2, .int v2), (3, .int v3), (4, .int v4), (5, .int ((10 * v2) + v3))]) dX8_tryGroup_15 (by decide) rfl ?_
  refine q_norm [1, 2, 3, 4, 5, 6, 0] rfl ?_
  refine q_iload_n C 1 dX8_tryGroup_17 rfl rfl ?_
  rcases q_ite h with ⟨q1, h⟩ | ⟨q1, h⟩
  · refine q_tableIn (off := 50) (tgt := 68) C dX8_tryGroup_18 (by rw [q1]; decide) (by rw [q1]; decide) (by rw [q1]; rfl) (by decide) ?_
    refine q_aload_n C 0 dX8_tryGroup_68 rfl rfl ?_
    refine s_getr (a := 115) C lf8_19 ltp_111 kd_111 rfl dX8_tryGroup_69 ?_
    refine q_iload_n C 2 dX8_tryGroup_72 rfl rfl ?_
    refine q_iload_n C 3 dX8_tryGroup_73 rfl rfl ?_
    refine q_iload C 4 dX8_tryGroup_74 rfl ?_
    obtain ⟨r11, hc10, h⟩ := ob1_e h
    refine q_callSi0 C (kX8_whyNotBuild n 115 (tyI_115) v2 v3 v4 S hc10) lm8_195 rfl (rest := []) rfl (Nat.le_of_ble_eq_true rfl) dX8_tryGroup_76 ⟨rfl, rfl, Nat.le_of_ble_eq_true rfl, Nat.le_of_ble_eq_true rfl, Nat.le_of_ble_eq_true rfl, Nat.le_of_ble_eq_true rfl⟩ ?_
    refine q_if_ne (tgt := 100) C h dX8_tryGroup_79 (by decide) (fun h => ?_) (fun h => ?_)
    · refine q_iconst (v := 0) C dX8_tryGroup_100 (by decide) ?_
      obtain ⟨rfl, rfl⟩ := Prod.mk.inj (Option.some.inj h)
      exact q_zret C hr (by decide) (Nat.le_refl 0) (Nat.le_refl 0) dX8_tryGroup_101
    · refine q_aload_n C 0 dX8_tryGroup_82 rfl rfl ?_
      refine s_getr (a := 115) C lf8_19 ltp_111 kd_111 rfl dX8_tryGroup_83 ?_
      refine q_iload_n C 2 dX8_tryGroup_86 rfl rfl ?_
      refine q_iload_n C 3 dX8_tryGroup_87 rfl rfl ?_
      refine q_iload C 4 dX8_tryGroup_88 rfl ?_
      obtain ⟨r13, S14, hc12, h⟩ := ob2_e h
      refine q_callSi0 C (kX8_build 115 (tyI_115) v2 v3 v4 S hc12) lm8_122 rfl (rest := []) rfl (Nat.le_of_ble_eq_true rfl) dX8_tryGroup_90 ⟨rfl, rfl, Nat.le_of_ble_eq_true rfl, Nat.le_of_ble_eq_true rfl, Nat.le_of_ble_eq_true rfl, Nat.le_of_ble_eq_true rfl⟩ ?_
      refine q_if_lt (tgt := 100) C h dX8_tryGroup_93 (by decide) (fun h => ?_) (fun h => ?_)
      · refine q_iconst (v := 0) C dX8_tryGroup_100 (by decide) ?_
        obtain ⟨rfl, rfl⟩ := Prod.mk.inj (Option.some.inj h)
        exact q_zret C hr (by decide) (Nat.le_refl 0) (Nat.le_refl 0) dX8_tryGroup_101
      · refine q_iconst (v := 1) C dX8_tryGroup_96 (by decide) ?_
        refine q_goto (tgt := 101) C dX8_tryGroup_97 (by decide) ?_
        obtain ⟨rfl, rfl⟩ := Prod.mk.inj (Option.some.inj h)
        exact q_zret C hr (by decide) (Nat.le_refl 0) (Nat.le_refl 0) dX8_tryGroup_101
  rcases q_ite h with ⟨q2, h⟩ | ⟨q2, h⟩
  · refine q_tableIn (off := 84) (tgt := 102) C dX8_tryGroup_18 (by rw [q2]; decide) (by rw [q2]; decide) (by rw [q2]; rfl) (by decide) ?_
    refine q_iload C 4 dX8_tryGroup_102 rfl ?_
    refine q_if_gt (tgt := 119) C h dX8_tryGroup_104 (by decide) (fun h => ?_) (fun h => ?_)
    · refine q_iconst (v := 0) C dX8_tryGroup_119 (by decide) ?_
      obtain ⟨rfl, rfl⟩ := Prod.mk.inj (Option.some.inj h)
      exact q_zret C hr (by decide) (Nat.le_refl 0) (Nat.le_refl 0) dX8_tryGroup_120
    · refine q_aload_n C 0 dX8_tryGroup_107 rfl rfl ?_
      refine s_getr (a := 115) C lf8_19 ltp_111 kd_111 rfl dX8_tryGroup_108 ?_
      refine q_iload C 5 dX8_tryGroup_111 rfl ?_
      obtain ⟨r16, hc15, h⟩ := ob1_e h
      refine q_callSi0 C (kX8_isStreet 115 (tyI_115) ((10 * v2) + v3) S hc15) lm8_173 rfl (rest := []) rfl (Nat.le_of_ble_eq_true rfl) dX8_tryGroup_113 ⟨rfl, rfl, Nat.le_of_ble_eq_true rfl, Nat.le_of_ble_eq_true rfl, Nat.le_of_ble_eq_true rfl, Nat.le_of_ble_eq_true rfl⟩ ?_
      refine q_if_ne (tgt := 121) C h dX8_tryGroup_116 (by decide) (fun h => ?_) (fun h => ?_)
      · refine q_aload_n C 0 dX8_tryGroup_121 rfl rfl ?_
        refine s_getr (a := 115) C lf8_19 ltp_111 kd_111 rfl dX8_tryGroup_122 ?_
        refine q_iload C 5 dX8_tryGroup_125 rfl ?_
        obtain ⟨S18, hc17, h⟩ := ob1_e h
        refine q_callSv0 C (kX8_tearDown n 115 (tyI_115) ((10 * v2) + v3) S hc17) lm8_198 rfl (rest := []) rfl (Nat.le_of_ble_eq_true rfl) dX8_tryGroup_127 ⟨rfl, rfl, Nat.le_of_ble_eq_true rfl, Nat.le_of_ble_eq_true rfl, Nat.le_of_ble_eq_true rfl, Nat.le_of_ble_eq_true rfl⟩ ?_
        refine q_iconst (v := 1) C dX8_tryGroup_130 (by decide) ?_
        obtain ⟨rfl, rfl⟩ := Prod.mk.inj (Option.some.inj h)
        exact q_zret C hr (by decide) (Nat.le_refl 0) (Nat.le_refl 0) dX8_tryGroup_131
      · refine q_iconst (v := 0) C dX8_tryGroup_119 (by decide) ?_
        obtain ⟨rfl, rfl⟩ := Prod.mk.inj (Option.some.inj h)
        exact q_zret C hr (by decide) (Nat.le_refl 0) (Nat.le_refl 0) dX8_tryGroup_120
  rcases q_ite h with ⟨q3, h⟩ | ⟨q3, h⟩
  · refine q_tableIn (off := 114) (tgt := 132) C dX8_tryGroup_18 (by rw [q3]; decide) (by rw [q3]; decide) (by rw [q3]; rfl) (by decide) ?_
    refine q_aload_n C 0 dX8_tryGroup_132 rfl rfl ?_
    refine s_getr (a := 115) C lf8_19 ltp_111 kd_111 rfl dX8_tryGroup_133 ?_
    refine q_iload C 5 dX8_tryGroup_136 rfl ?_
    obtain ⟨r20, hc19, h⟩ := ob1_e h
    refine q_callSi0 C (kX8_isStreet 115 (tyI_115) ((10 * v2) + v3) S hc19) lm8_173 rfl (rest := []) rfl (Nat.le_of_ble_eq_true rfl) dX8_tryGroup_138 ⟨rfl, rfl, Nat.le_of_ble_eq_true rfl, Nat.le_of_ble_eq_true rfl, Nat.le_of_ble_eq_true rfl, Nat.le_of_ble_eq_true rfl⟩ ?_
    refine q_if_eq (tgt := 149) C h dX8_tryGroup_141 (by decide) (fun h => ?_) (fun h => ?_)
    · refine q_iconst (v := 0) C dX8_tryGroup_149 (by decide) ?_
      obtain ⟨rfl, rfl⟩ := Prod.mk.inj (Option.some.inj h)
      exact q_zret C hr (by decide) (Nat.le_refl 0) (Nat.le_refl 0) dX8_tryGroup_150
    · refine q_iload C 4 dX8_tryGroup_144 rfl ?_
      refine q_if_ne (tgt := 151) C h dX8_tryGroup_146 (by decide) (fun h => ?_) (fun h => ?_)
      · refine q_aload_n C 0 dX8_tryGroup_151 rfl rfl ?_
        refine s_getr (a := 115) C lf8_19 ltp_111 kd_111 rfl dX8_tryGroup_152 ?_
        refine q_bipush (v := 44) C dX8_tryGroup_155 (by decide) ?_
        refine q_iload C 5 dX8_tryGroup_157 rfl ?_
        refine q_iadd C dX8_tryGroup_159 ?_
        refine q_iload C 4 dX8_tryGroup_160 rfl ?_
        obtain ⟨hb21, h⟩ := q_if h
        obtain ⟨S22, hS22, h⟩ := obs_e h
        refine s_iast C ltp_115 kd_115 hb21 dX8_tryGroup_162 ?_
        rw [← hS22]
        refine q_iconst (v := 1) C dX8_tryGroup_163 (by decide) ?_
        obtain ⟨rfl, rfl⟩ := Prod.mk.inj (Option.some.inj h)
        exact q_zret C hr (by decide) (Nat.le_refl 0) (Nat.le_refl 0) dX8_tryGroup_164
      · refine q_iconst (v := 0) C dX8_tryGroup_149 (by decide) ?_
        obtain ⟨rfl, rfl⟩ := Prod.mk.inj (Option.some.inj h)
        exact q_zret C hr (by decide) (Nat.le_refl 0) (Nat.le_refl 0) dX8_tryGroup_150
  rcases q_ite h with ⟨q4, h⟩ | ⟨q4, h⟩
  · refine q_tableIn (off := 147) (tgt := 165) C dX8_tryGroup_18 (by rw [q4]; decide) (by rw [q4]; decide) (by rw [q4]; rfl) (by decide) ?_
    refine q_aload_n C 0 dX8_tryGroup_165 rfl rfl ?_
    refine s_getr (a := 115) C lf8_19 ltp_111 kd_111 rfl dX8_tryGroup_166 ?_
    refine q_iload C 5 dX8_tryGroup_169 rfl ?_
    obtain ⟨r24, hc23, h⟩ := ob1_e h
    refine q_callSi0 C (kX8_isStreet 115 (tyI_115) ((10 * v2) + v3) S hc23) lm8_173 rfl (rest := []) rfl (Nat.le_of_ble_eq_true rfl) dX8_tryGroup_171 ⟨rfl, rfl, Nat.le_of_ble_eq_true rfl, Nat.le_of_ble_eq_true rfl, Nat.le_of_ble_eq_true rfl, Nat.le_of_ble_eq_true rfl⟩ ?_
    refine q_if_eq (tgt := 189) C h dX8_tryGroup_174 (by decide) (fun h => ?_) (fun h => ?_)
    · refine q_iconst (v := 0) C dX8_tryGroup_189 (by decide) ?_
      obtain ⟨rfl, rfl⟩ := Prod.mk.inj (Option.some.inj h)
      exact q_zret C hr (by decide) (Nat.le_refl 0) (Nat.le_refl 0) dX8_tryGroup_190
    · refine q_iload C 4 dX8_tryGroup_177 rfl ?_
      refine q_if_eq (tgt := 191) C h dX8_tryGroup_179 (by decide) (fun h => ?_) (fun h => ?_)
      · refine q_norm [0, 4, 5] rfl ?_
        exact W8_tryGroup_191 C hr n v4 ((10 * v2) + v3) S h
      · refine q_iload C 4 dX8_tryGroup_182 rfl ?_
        refine q_bipush (v := 10) C dX8_tryGroup_184 (by decide) ?_
        refine q_icmp_eq (tgt := 191) C h dX8_tryGroup_186 (by decide) (fun h => ?_) (fun h => ?_)
        · refine q_norm [0, 4, 5] rfl ?_
          exact W8_tryGroup_191 C hr n v4 ((10 * v2) + v3) S h
        · refine q_iconst (v := 0) C dX8_tryGroup_189 (by decide) ?_
          obtain ⟨rfl, rfl⟩ := Prod.mk.inj (Option.some.inj h)
          exact q_zret C hr (by decide) (Nat.le_refl 0) (Nat.le_refl 0) dX8_tryGroup_190
  rcases q_ite h with ⟨q5, h⟩ | ⟨q5, h⟩
  · refine q_tableIn (off := 190) (tgt := 208) C dX8_tryGroup_18 (by rw [q5]; decide) (by rw [q5]; decide) (by rw [q5]; rfl) (by decide) ?_
    refine q_iload C 4 dX8_tryGroup_208 rfl ?_
    refine q_if_gt (tgt := 240) C h dX8_tryGroup_210 (by decide) (fun h => ?_) (fun h => ?_)
    · refine q_iconst (v := 0) C dX8_tryGroup_240 (by decide) ?_
      obtain ⟨rfl, rfl⟩ := Prod.mk.inj (Option.some.inj h)
      exact q_zret C hr (by decide) (Nat.le_refl 0) (Nat.le_refl 0) dX8_tryGroup_241
    · refine q_iload_n C 2 dX8_tryGroup_213 rfl rfl ?_
      refine q_iload_n C 3 dX8_tryGroup_214 rfl rfl ?_
      refine q_icmp_eq (tgt := 240) C h dX8_tryGroup_215 (by decide) (fun h => ?_) (fun h => ?_)
      · refine q_iconst (v := 0) C dX8_tryGroup_240 (by decide) ?_
        obtain ⟨rfl, rfl⟩ := Prod.mk.inj (Option.some.inj h)
        exact q_zret C hr (by decide) (Nat.le_refl 0) (Nat.le_refl 0) dX8_tryGroup_241
      · refine q_aload_n C 0 dX8_tryGroup_218 rfl rfl ?_
        refine s_getr (a := 115) C lf8_19 ltp_111 kd_111 rfl dX8_tryGroup_219 ?_
        refine q_iload_n C 2 dX8_tryGroup_222 rfl rfl ?_
        obtain ⟨r28, hc27, h⟩ := ob1_e h
        refine q_callSi0 C (kX8_isCrossing 115 (tyI_115) v2 S hc27) lm8_182 rfl (rest := []) rfl (Nat.le_of_ble_eq_true rfl) dX8_tryGroup_223 ⟨rfl, rfl, Nat.le_of_ble_eq_true rfl, Nat.le_of_ble_eq_true rfl, Nat.le_of_ble_eq_true rfl, Nat.le_of_ble_eq_true rfl⟩ ?_
        refine q_if_eq (tgt := 240) C h dX8_tryGroup_226 (by decide) (fun h => ?_) (fun h => ?_)
        · refine q_iconst (v := 0) C dX8_tryGroup_240 (by decide) ?_
          obtain ⟨rfl, rfl⟩ := Prod.mk.inj (Option.some.inj h)
          exact q_zret C hr (by decide) (Nat.le_refl 0) (Nat.le_refl 0) dX8_tryGroup_241
        · refine q_aload_n C 0 dX8_tryGroup_229 rfl rfl ?_
          refine s_getr (a := 115) C lf8_19 ltp_111 kd_111 rfl dX8_tryGroup_230 ?_
          refine q_iload_n C 3 dX8_tryGroup_233 rfl rfl ?_
          obtain ⟨r30, hc29, h⟩ := ob1_e h
          refine q_callSi0 C (kX8_isCrossing 115 (tyI_115) v3 S hc29) lm8_182 rfl (rest := []) rfl (Nat.le_of_ble_eq_true rfl) dX8_tryGroup_234 ⟨rfl, rfl, Nat.le_of_ble_eq_true rfl, Nat.le_of_ble_eq_true rfl, Nat.le_of_ble_eq_true rfl, Nat.le_of_ble_eq_true rfl⟩ ?_
          refine q_if_ne (tgt := 242) C h dX8_tryGroup_237 (by decide) (fun h => ?_) (fun h => ?_)
          · refine q_aload_n C 0 dX8_tryGroup_242 rfl rfl ?_
            refine s_getr (a := 115) C lf8_19 ltp_111 kd_111 rfl dX8_tryGroup_243 ?_
            refine q_iconst (v := 2) C dX8_tryGroup_246 (by decide) ?_
            refine q_iload_n C 2 dX8_tryGroup_247 rfl rfl ?_
            obtain ⟨S31, hS31, h⟩ := obs_e h
            refine s_iast C ltp_115 kd_115 (by decide) dX8_tryGroup_248 ?_
            rw [← hS31]
            refine q_aload_n C 0 dX8_tryGroup_249 rfl rfl ?_
            refine s_getr (a := 115) C lf8_19 ltp_111 kd_111 rfl dX8_tryGroup_250 ?_
            refine q_iconst (v := 3) C dX8_tryGroup_253 (by decide) ?_
            refine q_iload_n C 3 dX8_tryGroup_254 rfl rfl ?_
            obtain ⟨S32, hS32, h⟩ := obs_e h
            refine s_iast C ltp_115 kd_115 (by decide) dX8_tryGroup_255 ?_
            rw [← hS32]
            refine q_iconst (v := 1) C dX8_tryGroup_256 (by decide) ?_
            obtain ⟨rfl, rfl⟩ := Prod.mk.inj (Option.some.inj h)
            exact q_zret C hr (by decide) (Nat.le_refl 0) (Nat.le_refl 0) dX8_tryGroup_257
          · refine q_iconst (v := 0) C dX8_tryGroup_240 (by decide) ?_
            obtain ⟨rfl, rfl⟩ := Prod.mk.inj (Option.some.inj h)
            exact q_zret C hr (by decide) (Nat.le_refl 0) (Nat.le_refl 0) dX8_tryGroup_241
  rcases q_ite h with ⟨q6, h⟩ | ⟨q6, h⟩
  · refine q_tableIn (off := 240) (tgt := 258) C dX8_tryGroup_18 (by rw [q6]; decide) (by rw [q6]; decide) (by rw [q6]; rfl) (by decide) ?_
    refine q_aload_n C 0 dX8_tryGroup_258 rfl rfl ?_
    refine q_aload_n C 0 dX8_tryGroup_259 rfl rfl ?_
    refine s_getr (a := 115) C lf8_19 ltp_111 kd_111 rfl dX8_tryGroup_260 ?_
    refine q_sipush (v := (-999)) C dX8_tryGroup_263 (by decide) ?_
    obtain ⟨r34, S35, hc33, h⟩ := ob2_e h
    refine q_callVi0 C ltp_111 (qmem_o kd_111 (Nat.le_of_ble_eq_true rfl)) rfl rfl (kX8_bestBut n 115 (tyI_115) (-999) S hc33) lm8_88 rfl (rest := []) rfl (Nat.le_of_ble_eq_true rfl) dX8_tryGroup_266 ⟨rfl, rfl, Nat.le_of_ble_eq_true rfl, Nat.le_of_ble_eq_true rfl, Nat.le_of_ble_eq_true rfl, Nat.le_of_ble_eq_true rfl⟩ ?_
    refine q_istore C (lv' := [(7, .int r34), (0, .ref (qa g 111)), (1, .int v1), (2, .int v2), (3, .int v3), (4, .int v4), (5, .int ((10 * v2) + v3)), (6, .int ((100 * v3) + v4))]) dX8_tryGroup_269 (by decide) rfl ?_
    refine q_norm [1, 2, 3, 4, 5, 6, 7, 0] rfl ?_
    refine q_iload_n C 2 dX8_tryGroup_271 rfl rfl ?_
    refine q_if_ne (tgt := 294) C h dX8_tryGroup_272 (by decide) (fun h => ?_) (fun h => ?_)
    · refine q_iconst (v := 0) C dX8_tryGroup_294 (by decide) ?_
      obtain ⟨rfl, rfl⟩ := Prod.mk.inj (Option.some.inj h)
      exact q_zret C hr (by decide) (Nat.le_refl 0) (Nat.le_refl 0) dX8_tryGroup_295
    · refine q_iload C 7 dX8_tryGroup_275 rfl ?_
      refine q_sipush (v := (-999)) C dX8_tryGroup_277 (by decide) ?_
      refine q_icmp_eq (tgt := 294) C h dX8_tryGroup_280 (by decide) (fun h => ?_) (fun h => ?_)
      · refine q_iconst (v := 0) C dX8_tryGroup_294 (by decide) ?_
        obtain ⟨rfl, rfl⟩ := Prod.mk.inj (Option.some.inj h)
        exact q_zret C hr (by decide) (Nat.le_refl 0) (Nat.le_refl 0) dX8_tryGroup_295
      · refine q_iload C 7 dX8_tryGroup_283 rfl ?_
        refine q_iload C 6 dX8_tryGroup_285 rfl ?_
        refine q_icmp_gt (tgt := 294) C h dX8_tryGroup_287 (by decide) (fun h => ?_) (fun h => ?_)
        · refine q_iconst (v := 0) C dX8_tryGroup_294 (by decide) ?_
          obtain ⟨rfl, rfl⟩ := Prod.mk.inj (Option.some.inj h)
          exact q_zret C hr (by decide) (Nat.le_refl 0) (Nat.le_refl 0) dX8_tryGroup_295
        · refine q_iconst (v := 1) C dX8_tryGroup_290 (by decide) ?_
          refine q_goto (tgt := 295) C dX8_tryGroup_291 (by decide) ?_
          obtain ⟨rfl, rfl⟩ := Prod.mk.inj (Option.some.inj h)
          exact q_zret C hr (by decide) (Nat.le_refl 0) (Nat.le_refl 0) dX8_tryGroup_295
  rcases q_ite h with ⟨q7, h⟩ | ⟨q7, h⟩
  · refine q_tableIn (off := 278) (tgt := 296) C dX8_tryGroup_18 (by rw [q7]; decide) (by rw [q7]; decide) (by rw [q7]; rfl) (by decide) ?_
    refine q_aload_n C 0 dX8_tryGroup_296 rfl rfl ?_
    refine q_aload_n C 0 dX8_tryGroup_297 rfl rfl ?_
    refine s_getr (a := 115) C lf8_19 ltp_111 kd_111 rfl dX8_tryGroup_298 ?_
    refine q_sipush (v := (-999)) C dX8_tryGroup_301 (by decide) ?_
    obtain ⟨r37, S38, hc36, h⟩ := ob2_e h
    refine q_callVi0 C ltp_111 (qmem_o kd_111 (Nat.le_of_ble_eq_true rfl)) rfl rfl (kX8_layWay n 115 (tyI_115) (-999) S hc36) lm8_170 rfl (rest := []) rfl (Nat.le_of_ble_eq_true rfl) dX8_tryGroup_304 ⟨rfl, rfl, Nat.le_of_ble_eq_true rfl, Nat.le_of_ble_eq_true rfl, Nat.le_of_ble_eq_true rfl, Nat.le_of_ble_eq_true rfl⟩ ?_
    refine q_pop C dX8_tryGroup_307 rfl ?_
    refine q_iload C 4 dX8_tryGroup_308 rfl ?_
    refine q_if_ne (tgt := 355) C h dX8_tryGroup_310 (by decide) (fun h => ?_) (fun h => ?_)
    · refine q_iconst (v := 0) C dX8_tryGroup_355 (by decide) ?_
      obtain ⟨rfl, rfl⟩ := Prod.mk.inj (Option.some.inj h)
      exact q_zret C hr (by decide) (Nat.le_refl 0) (Nat.le_refl 0) dX8_tryGroup_356
    · refine q_aload_n C 0 dX8_tryGroup_313 rfl rfl ?_
      refine s_getr (a := 115) C lf8_19 ltp_111 kd_111 rfl dX8_tryGroup_314 ?_
      refine q_iload C 5 dX8_tryGroup_317 rfl ?_
      obtain ⟨r40, hc39, h⟩ := ob1_e h
      refine q_callSi0 C (kX8_isStreet 115 (tyI_115) ((10 * v2) + v3) S38 hc39) lm8_173 rfl (rest := []) rfl (Nat.le_of_ble_eq_true rfl) dX8_tryGroup_319 ⟨rfl, rfl, Nat.le_of_ble_eq_true rfl, Nat.le_of_ble_eq_true rfl, Nat.le_of_ble_eq_true rfl, Nat.le_of_ble_eq_true rfl⟩ ?_
      refine q_if_eq (tgt := 355) C h dX8_tryGroup_322 (by decide) (fun h => ?_) (fun h => ?_)
      · refine q_iconst (v := 0) C dX8_tryGroup_355 (by decide) ?_
        obtain ⟨rfl, rfl⟩ := Prod.mk.inj (Option.some.inj h)
        exact q_zret C hr (by decide) (Nat.le_refl 0) (Nat.le_refl 0) dX8_tryGroup_356
      · refine q_aload_n C 0 dX8_tryGroup_325 rfl rfl ?_
        refine s_getr (a := 115) C lf8_19 ltp_111 kd_111 rfl dX8_tryGroup_326 ?_
        refine q_bipush (v := 64) C dX8_tryGroup_329 (by decide) ?_
        refine q_iload C 5 dX8_tryGroup_331 rfl ?_
        refine q_iadd C dX8_tryGroup_333 ?_
        obtain ⟨hb41, h⟩ := q_if h
        refine s_iald C ltp_115 kd_115 hb41 dX8_tryGroup_334 ?_
        refine q_if_ne (tgt := 355) C h dX8_tryGroup_335 (by decide) (fun h => ?_) (fun h => ?_)
        · refine q_iconst (v := 0) C dX8_tryGroup_355 (by decide) ?_
          obtain ⟨rfl, rfl⟩ := Prod.mk.inj (Option.some.inj h)
          exact q_zret C hr (by decide) (Nat.le_refl 0) (Nat.le_refl 0) dX8_tryGroup_356
        · refine q_aload_n C 0 dX8_tryGroup_338 rfl rfl ?_
          refine q_aload_n C 0 dX8_tryGroup_339 rfl rfl ?_
          refine s_getr (a := 115) C lf8_19 ltp_111 kd_111 rfl dX8_tryGroup_340 ?_
          refine q_iload C 5 dX8_tryGroup_343 rfl ?_
          obtain ⟨r43, hc42, h⟩ := ob1_e h
          refine q_callVi0 C ltp_111 (qmem_o kd_111 (Nat.le_of_ble_eq_true rfl)) rfl rfl (kX8_isOfWay n 115 (tyI_115) ((10 * v2) + v3) S38 hc42) lm8_179 rfl (rest := []) rfl (Nat.le_of_ble_eq_true rfl) dX8_tryGroup_345 ⟨rfl, rfl, Nat.le_of_ble_eq_true rfl, Nat.le_of_ble_eq_true rfl, Nat.le_of_ble_eq_true rfl, Nat.le_of_ble_eq_true rfl⟩ ?_
          refine q_if_eq (tgt := 355) C h dX8_tryGroup_348 (by decide) (fun h => ?_) (fun h => ?_)
          · refine q_iconst (v := 0) C dX8_tryGroup_355 (by decide) ?_
            obtain ⟨rfl, rfl⟩ := Prod.mk.inj (Option.some.inj h)
            exact q_zret C hr (by decide) (Nat.le_refl 0) (Nat.le_refl 0) dX8_tryGroup_356
          · refine q_iconst (v := 1) C dX8_tryGroup_351 (by decide) ?_
            refine q_goto (tgt := 356) C dX8_tryGroup_352 (by decide) ?_
            obtain ⟨rfl, rfl⟩ := Prod.mk.inj (Option.some.inj h)
            exact q_zret C hr (by decide) (Nat.le_refl 0) (Nat.le_refl 0) dX8_tryGroup_356
  rcases q_ite h with ⟨q8, h⟩ | ⟨q8, h⟩
  · refine q_tableIn (off := 339) (tgt := 357) C dX8_tryGroup_18 (by rw [q8]; decide) (by rw [q8]; decide) (by rw [q8]; rfl) (by decide) ?_
    refine q_iload C 5 dX8_tryGroup_357 rfl ?_
    refine q_if_ne (tgt := 401) C h dX8_tryGroup_359 (by decide) (fun h => ?_) (fun h => ?_)
    · refine q_iconst (v := 0) C dX8_tryGroup_401 (by decide) ?_
      obtain ⟨rfl, rfl⟩ := Prod.mk.inj (Option.some.inj h)
      exact q_zret C hr (by decide) (Nat.le_refl 0) (Nat.le_refl 0) dX8_tryGroup_402
    · refine q_iload C 4 dX8_tryGroup_362 rfl ?_
      refine q_bipush (v := 10) C dX8_tryGroup_364 (by decide) ?_
      refine q_icmp_ge (tgt := 401) C h dX8_tryGroup_366 (by decide) (fun h => ?_) (fun h => ?_)
      · refine q_iconst (v := 0) C dX8_tryGroup_401 (by decide) ?_
        obtain ⟨rfl, rfl⟩ := Prod.mk.inj (Option.some.inj h)
        exact q_zret C hr (by decide) (Nat.le_refl 0) (Nat.le_refl 0) dX8_tryGroup_402
      · refine q_aload_n C 0 dX8_tryGroup_369 rfl rfl ?_
        refine q_aload_n C 0 dX8_tryGroup_370 rfl rfl ?_
        refine s_getr (a := 115) C lf8_19 ltp_111 kd_111 rfl dX8_tryGroup_371 ?_
        refine q_sipush (v := (-999)) C dX8_tryGroup_374 (by decide) ?_
        obtain ⟨r45, S46, hc44, h⟩ := ob2_e h
        refine q_callVi0 C ltp_111 (qmem_o kd_111 (Nat.le_of_ble_eq_true rfl)) rfl rfl (kX8_layWay n 115 (tyI_115) (-999) S hc44) lm8_170 rfl (rest := []) rfl (Nat.le_of_ble_eq_true rfl) dX8_tryGroup_377 ⟨rfl, rfl, Nat.le_of_ble_eq_true rfl, Nat.le_of_ble_eq_true rfl, Nat.le_of_ble_eq_true rfl, Nat.le_of_ble_eq_true rfl⟩ ?_
        refine q_sipush (v := (-999)) C dX8_tryGroup_380 (by decide) ?_
        refine q_icmp_eq (tgt := 401) C h dX8_tryGroup_383 (by decide) (fun h => ?_) (fun h => ?_)
        · refine q_iconst (v := 0) C dX8_tryGroup_401 (by decide) ?_
          obtain ⟨rfl, rfl⟩ := Prod.mk.inj (Option.some.inj h)
          exact q_zret C hr (by decide) (Nat.le_refl 0) (Nat.le_refl 0) dX8_tryGroup_402
        · refine q_aload_n C 0 dX8_tryGroup_386 rfl rfl ?_
          refine s_geti C lf8_92 ltp_111 kd_111 dX8_tryGroup_387 ?_
          refine q_iconst (v := 1) C dX8_tryGroup_390 (by decide) ?_
          refine q_isub C dX8_tryGroup_391 ?_
          refine q_iload C 4 dX8_tryGroup_392 rfl ?_
          refine q_icmp_gt (tgt := 401) C h dX8_tryGroup_394 (by decide) (fun h => ?_) (fun h => ?_)
          · refine q_iconst (v := 0) C dX8_tryGroup_401 (by decide) ?_
            obtain ⟨rfl, rfl⟩ := Prod.mk.inj (Option.some.inj h)
            exact q_zret C hr (by decide) (Nat.le_refl 0) (Nat.le_refl 0) dX8_tryGroup_402
          · refine q_iconst (v := 1) C dX8_tryGroup_397 (by decide) ?_
            refine q_goto (tgt := 402) C dX8_tryGroup_398 (by decide) ?_
            obtain ⟨rfl, rfl⟩ := Prod.mk.inj (Option.some.inj h)
            exact q_zret C hr (by decide) (Nat.le_refl 0) (Nat.le_refl 0) dX8_tryGroup_402
  rcases q_ite h with ⟨q9, h⟩ | ⟨q9, h⟩
  · refine q_tableIn (off := 385) (tgt := 403) C dX8_tryGroup_18 (by rw [q9]; decide) (by rw [q9]; decide) (by rw [q9]; rfl) (by decide) ?_
    refine q_iload_n C 3 dX8_tryGroup_403 rfl rfl ?_
    refine q_if_gt (tgt := 418) C h dX8_tryGroup_404 (by decide) (fun h => ?_) (fun h => ?_)
    · refine q_iconst (v := 0) C dX8_tryGroup_418 (by decide) ?_
      obtain ⟨rfl, rfl⟩ := Prod.mk.inj (Option.some.inj h)
      exact q_zret C hr (by decide) (Nat.le_refl 0) (Nat.le_refl 0) dX8_tryGroup_419
    · refine q_aload_n C 0 dX8_tryGroup_407 rfl rfl ?_
      refine s_getr (a := 115) C lf8_19 ltp_111 kd_111 rfl dX8_tryGroup_408 ?_
      refine q_iload_n C 2 dX8_tryGroup_411 rfl rfl ?_
      obtain ⟨r48, hc47, h⟩ := ob1_e h
      refine q_callSi0 C (kX8_isCrossing 115 (tyI_115) v2 S hc47) lm8_182 rfl (rest := []) rfl (Nat.le_of_ble_eq_true rfl) dX8_tryGroup_412 ⟨rfl, rfl, Nat.le_of_ble_eq_true rfl, Nat.le_of_ble_eq_true rfl, Nat.le_of_ble_eq_true rfl, Nat.le_of_ble_eq_true rfl⟩ ?_
      refine q_if_ne (tgt := 420) C h dX8_tryGroup_415 (by decide) (fun h => ?_) (fun h => ?_)
      · refine q_aload_n C 0 dX8_tryGroup_420 rfl rfl ?_
        refine q_aload_n C 0 dX8_tryGroup_421 rfl rfl ?_
        refine s_getr (a := 115) C lf8_19 ltp_111 kd_111 rfl dX8_tryGroup_422 ?_
        refine q_sipush (v := (-999)) C dX8_tryGroup_425 (by decide) ?_
        obtain ⟨S50, hc49, h⟩ := ob1_e h
        refine q_callVv0 C ltp_111 (qmem_o kd_111 (Nat.le_of_ble_eq_true rfl)) rfl rfl (kX8_layCosts n 115 (tyI_115) (-999) S hc49) lm8_81 rfl (rest := []) rfl (Nat.le_of_ble_eq_true rfl) dX8_tryGroup_428 ⟨rfl, rfl, Nat.le_of_ble_eq_true rfl, Nat.le_of_ble_eq_true rfl, Nat.le_of_ble_eq_true rfl, Nat.le_of_ble_eq_true rfl⟩ ?_
        refine q_aload_n C 0 dX8_tryGroup_431 rfl rfl ?_
        refine q_aload_n C 0 dX8_tryGroup_432 rfl rfl ?_
        refine s_getr (a := 115) C lf8_19 ltp_111 kd_111 rfl dX8_tryGroup_433 ?_
        refine q_aload_n C 0 dX8_tryGroup_436 rfl rfl ?_
        refine s_getr (a := 115) C lf8_19 ltp_111 kd_111 rfl dX8_tryGroup_437 ?_
        refine q_iconst (v := 2) C dX8_tryGroup_440 (by decide) ?_
        refine s_iald C ltp_115 kd_115 (by decide) dX8_tryGroup_441 ?_
        obtain ⟨S52, hc51, h⟩ := ob1_e h
        refine q_callVv0 C ltp_111 (qmem_o kd_111 (Nat.le_of_ble_eq_true rfl)) rfl rfl (kX8_layFar n 115 (tyI_115) (S50 115 (2 : Int32).toNatClampNeg) S50 hc51) lm8_74 rfl (rest := []) rfl (Nat.le_of_ble_eq_true rfl) dX8_tryGroup_442 ⟨rfl, rfl, Nat.le_of_ble_eq_true rfl, Nat.le_of_ble_eq_true rfl, Nat.le_of_ble_eq_true rfl, Nat.le_of_ble_eq_true rfl⟩ ?_
        refine q_aload_n C 0 dX8_tryGroup_445 rfl rfl ?_
        refine s_getr (a := 121) C lf8_38 ltp_111 kd_111 rfl dX8_tryGroup_446 ?_
        refine q_iload_n C 2 dX8_tryGroup_449 rfl rfl ?_
        obtain ⟨hb53, h⟩ := q_if h
        refine s_iald C ltp_121 kd_121 hb53 dX8_tryGroup_450 ?_
        refine q_callSi0 C (kX8_lengthOf (S52 121 v2.toNatClampNeg) S52) lm8_77 rfl (rest := []) rfl (Nat.le_of_ble_eq_true rfl) dX8_tryGroup_451 ⟨rfl, rfl, Nat.le_of_ble_eq_true rfl, Nat.le_of_ble_eq_true rfl, Nat.le_of_ble_eq_true rfl, Nat.le_of_ble_eq_true rfl⟩ ?_
        obtain ⟨x54, hx54, h⟩ := obs_e h
        rw [← hx54]
        refine q_istore C (lv' := [(7, .int x54), (0, .ref (qa g 111)), (1, .int v1), (2, .int v2), (3, .int v3), (4, .int v4), (5, .int ((10 * v2) + v3)), (6, .int ((100 * v3) + v4))]) dX8_tryGroup_454 (by decide) rfl ?_
        refine q_norm [1, 2, 3, 4, 5, 6, 7, 0] rfl ?_
        refine q_iload C 7 dX8_tryGroup_456 rfl ?_
        refine q_sipush (v := (-999)) C dX8_tryGroup_458 (by decide) ?_
        refine q_icmp_eq (tgt := 475) C h dX8_tryGroup_461 (by decide) (fun h => ?_) (fun h => ?_)
        · refine q_iconst (v := 0) C dX8_tryGroup_475 (by decide) ?_
          obtain ⟨rfl, rfl⟩ := Prod.mk.inj (Option.some.inj h)
          exact q_zret C hr (by decide) (Nat.le_refl 0) (Nat.le_refl 0) dX8_tryGroup_476
        · refine q_iload C 7 dX8_tryGroup_464 rfl ?_
          refine q_iload C 4 dX8_tryGroup_466 rfl ?_
          refine q_icmp_gt (tgt := 475) C h dX8_tryGroup_468 (by decide) (fun h => ?_) (fun h => ?_)
          · refine q_iconst (v := 0) C dX8_tryGroup_475 (by decide) ?_
            obtain ⟨rfl, rfl⟩ := Prod.mk.inj (Option.some.inj h)
            exact q_zret C hr (by decide) (Nat.le_refl 0) (Nat.le_refl 0) dX8_tryGroup_476
          · refine q_iconst (v := 1) C dX8_tryGroup_471 (by decide) ?_
            refine q_goto (tgt := 476) C dX8_tryGroup_472 (by decide) ?_
            obtain ⟨rfl, rfl⟩ := Prod.mk.inj (Option.some.inj h)
            exact q_zret C hr (by decide) (Nat.le_refl 0) (Nat.le_refl 0) dX8_tryGroup_476
      · refine q_iconst (v := 0) C dX8_tryGroup_418 (by decide) ?_
        obtain ⟨rfl, rfl⟩ := Prod.mk.inj (Option.some.inj h)
        exact q_zret C hr (by decide) (Nat.le_refl 0) (Nat.le_refl 0) dX8_tryGroup_419
  refine q_tableOut (tgt := 477) C dX8_tryGroup_18 (by have q1 := q_ne (k := 1) (by decide) q1; have q2 := q_ne (k := 2) (by decide) q2; have q3 := q_ne (k := 3) (by decide) q3; have q4 := q_ne (k := 4) (by decide) q4; have q5 := q_ne (k := 5) (by decide) q5; have q6 := q_ne (k := 6) (by decide) q6; have q7 := q_ne (k := 7) (by decide) q7; have q8 := q_ne (k := 8) (by decide) q8; have q9 := q_ne (k := 9) (by decide) q9; omega) (by decide) ?_
  refine q_iconst (v := 0) C dX8_tryGroup_477 (by decide) ?_
  obtain ⟨rfl, rfl⟩ := Prod.mk.inj (Option.some.inj h)
  exact q_zret C hr (by decide) (Nat.le_refl 0) (Nat.le_refl 0) dX8_tryGroup_478
/-! ClosedStreetsModel.runScript -/
abbrev rmX8_runScript : Room := { frames := 5, cells := 0, slots := 0, locals := 200 }
def B8_runScript_86 (n : Nat) : Nat → Int32 → Int64 → Int64 → Int32 → qSt → Option (Int32 × qSt)
  | 0, _, _, _, _, _ => none
  | n9 + 1, v1, w2, w4, v6, S => if v1 ≤ v6 then (some ((-999), S)) else (if w4 / 100000 = 0 then none else obs (((w2 / (w4 / 100000)) - (w2 / (w4 / 100000)) / 100000 * 100000).toInt32) fun x7 => ob2 (F8_tryGroup n (x7 / 10000) ((x7 / 1000) - (x7 / 1000) / 10 * 10) ((x7 / 100) - (x7 / 100) / 10 * 10) (x7 - x7 / 100 * 100) S) fun r9 S10 => if ¬ r9 = 0 then ((B8_runScript_86 n n9) v1 w2 (w4 / 100000) (v6 + 1) S10) else (some (v6, S10)))
set_option maxRecDepth 100000 in
set_option maxHeartbeats 4000000 in
theorem W8_runScript_86 {r : Int32} {S2 : qSt} (C : qC g cX8_runScript RX8 8 p s m meth c) (hr : meth.sig.returnType = (some .int)) (n : Nat) : ∀ (n9 : Nat) (v1 : Int32) (w2 : Int64) (w4 : Int64) (v6 : Int32) (S : qSt), B8_runScript_86 n n9 v1 w2 w4 v6 S = some (r, S2) → qR g NL qT 8 p l e rmX8_runScript s m args below meth c 0 0 (MQ below (qQi g NL qT (qmem g S2) r) args s 0 0 (qA g)) (qmem g S) 86 [(0, .ref (qa g 111)), (1, .int v1), (2, .long w2), (4, .long w4), (6, .int v6)] [] := by
  intro n9
  induction n9 with
  | zero =>
    intro v1 w2 w4 v6 S h
    have h9 : (none : Option (Int32 × qSt)) = some (r, S2) := h
    cases h9
  | succ n9 ih =>
    intro v1 w2 w4 v6 S h
    rw [B8_runScript_86] at h
    refine q_iload C 4 dX8_runScript_86 rfl ?_
    refine q_iload_n C 1 dX8_runScript_88 rfl rfl ?_
    refine q_icmp_ge (tgt := 155) C h dX8_runScript_89 (by decide) (fun h => ?_) (fun h => ?_)
    · refine q_sipush (v := (-999)) C dX8_runScript_155 (by decide) ?_
      obtain ⟨rfl, rfl⟩ := Prod.mk.inj (Option.some.inj h)
      exact q_iret C hr (Nat.le_refl 0) (Nat.le_refl 0) dX8_runScript_158
    · refine q_lload C 3 dX8_runScript_92 rfl ?_
      refine q_ldc2 (v := 100000) C lc8_206 dX8_runScript_94 ?_
      refine q_ldiv C dX8_runScript_97 (by decide) ?_
      refine q_lstore C (lv' := [(4, .long (w4 / 100000)), (0, .ref (qa g 111)), (1, .int v1), (2, .long w2), (6, .int v6)]) dX8_runScript_98 (by decide) rfl ?_
      refine q_norm [1, 2, 3, 0, 4] rfl ?_
      refine q_lload_n C 2 dX8_runScript_100 rfl rfl ?_
      refine q_lload C 3 dX8_runScript_101 rfl ?_
      obtain ⟨hn6, h⟩ := q_ifn h
      refine q_ldiv C dX8_runScript_103 hn6 ?_
      refine q_ldc2 (v := 100000) C lc8_206 dX8_runScript_104 ?_
      refine q_lrem C dX8_runScript_107 (by decide) ?_
      refine q_l2i C dX8_runScript_108 rfl ?_
      obtain ⟨x7, hx7, h⟩ := obs_e h
      rw [← hx7]
      refine q_istore C (lv' := [(7, .int x7), (0, .ref (qa g 111)), (1, .int v1), (2, .long w2), (4, .long (w4 / 100000)), (6, .int v6)]) dX8_runScript_109 (by decide) rfl ?_
      refine q_norm [1, 2, 3, 4, 5, 0] rfl ?_
      refine q_aload_n C 0 dX8_runScript_111 rfl rfl ?_
      refine q_iload C 5 dX8_runScript_112 rfl ?_
      refine q_sipush (v := 10000) C dX8_runScript_114 (by decide) ?_
      refine q_idiv C dX8_runScript_117 (by decide) ?_
      refine q_iload C 5 dX8_runScript_118 rfl ?_
      refine q_sipush (v := 1000) C dX8_runScript_120 (by decide) ?_
      refine q_idiv C dX8_runScript_123 (by decide) ?_
      refine q_bipush (v := 10) C dX8_runScript_124 (by decide) ?_
      refine q_irem C dX8_runScript_126 (by decide) ?_
      refine q_iload C 5 dX8_runScript_127 rfl ?_
      refine q_bipush (v := 100) C dX8_runScript_129 (by decide) ?_
      refine q_idiv C dX8_runScript_131 (by decide) ?_
      refine q_bipush (v := 10) C dX8_runScript_132 (by decide) ?_
      refine q_irem C dX8_runScript_134 (by decide) ?_
      refine q_iload C 5 dX8_runScript_135 rfl ?_
      refine q_bipush (v := 100) C dX8_runScript_137 (by decide) ?_
      refine q_irem C dX8_runScript_139 (by decide) ?_
      obtain ⟨r9, S10, hc8, h⟩ := ob2_e h
      refine q_callVi0 C ltp_111 (qmem_o kd_111 (Nat.le_of_ble_eq_true rfl)) rfl rfl (kX8_tryGroup n (x7 / 10000) ((x7 / 1000) - (x7 / 1000) / 10 * 10) ((x7 / 100) - (x7 / 100) / 10 * 10) (x7 - x7 / 100 * 100) S hc8) lm8_208 rfl (rest := []) rfl (Nat.le_of_ble_eq_true rfl) dX8_runScript_140 ⟨rfl, rfl, Nat.le_of_ble_eq_true rfl, Nat.le_of_ble_eq_true rfl, Nat.le_of_ble_eq_true rfl, Nat.le_of_ble_eq_true rfl⟩ ?_
      refine q_if_ne (tgt := 149) C h dX8_runScript_143 (by decide) (fun h => ?_) (fun h => ?_)
      · refine q_iinc C 4 (v := v6 + 1) (lv' := [(6, .int (v6 + 1)), (0, .ref (qa g 111)), (1, .int v1), (2, .long w2), (4, .long (w4 / 100000)), (7, .int x7)]) dX8_runScript_149 rfl rfl (by decide) rfl ?_
        refine q_norm [1, 2, 3, 4, 0, 5] rfl ?_
        refine q_goto (tgt := 86) C dX8_runScript_152 (by decide) ?_
        refine q_norm [0, 1, 2, 3, 4] rfl ?_
        exact ih v1 w2 (w4 / 100000) (v6 + 1) S10 h
      · refine q_iload C 4 dX8_runScript_146 rfl ?_
        obtain ⟨rfl, rfl⟩ := Prod.mk.inj (Option.some.inj h)
        exact q_iret C hr (Nat.le_refl 0) (Nat.le_refl 0) dX8_runScript_148
def B8_runScript_62 (n : Nat) (v1 : Int32) (w2 : Int64) (w4 : Int64) (t1 : Int32) (S : qSt) : Option (Int32 × qSt) := ob2 (F8_refused t1 S) fun r2 S3 => if r2 = 0 then (ob1 (F8_copyTown n 114 0 115 0 S3) fun S5 => B8_runScript_86 n n v1 w2 w4 0 S5) else (some (0, S3))
set_option maxRecDepth 100000 in
set_option maxHeartbeats 4000000 in
theorem W8_runScript_62 {r : Int32} {S2 : qSt} (C : qC g cX8_runScript RX8 8 p s m meth c) (hr : meth.sig.returnType = (some .int)) (n : Nat) (v1 : Int32) (w2 : Int64) (w4 : Int64) (t1 : Int32) (S : qSt) (h : B8_runScript_62 n v1 w2 w4 t1 S = some (r, S2)) : qR g NL qT 8 p l e rmX8_runScript s m args below meth c 0 0 (MQ below (qQi g NL qT (qmem g S2) r) args s 0 0 (qA g)) (qmem g S) 62 [(0, .ref (qa g 111)), (1, .int v1), (2, .long w2), (4, .long w4)] [.int t1, .ref (qa g 111)] := by
  unfold B8_runScript_62 at h
  obtain ⟨r2, S3, hc1, h⟩ := ob2_e h
  refine q_callVi0 C ltp_111 (qmem_o kd_111 (Nat.le_of_ble_eq_true rfl)) rfl rfl (kX8_refused t1 S hc1) lm8_103 rfl (rest := []) rfl (Nat.le_of_ble_eq_true rfl) dX8_runScript_62 ⟨rfl, rfl, Nat.le_of_ble_eq_true rfl, Nat.le_of_ble_eq_true rfl, Nat.le_of_ble_eq_true rfl, Nat.le_of_ble_eq_true rfl⟩ ?_
  refine q_if_eq (tgt := 70) C h dX8_runScript_65 (by decide) (fun h => ?_) (fun h => ?_)
  · refine q_aload_n C 0 dX8_runScript_70 rfl rfl ?_
    refine s_getr (a := 114) C lf8_16 ltp_111 kd_111 rfl dX8_runScript_71 ?_
    refine q_iconst (v := 0) C dX8_runScript_74 (by decide) ?_
    refine q_aload_n C 0 dX8_runScript_75 rfl rfl ?_
    refine s_getr (a := 115) C lf8_19 ltp_111 kd_111 rfl dX8_runScript_76 ?_
    refine q_iconst (v := 0) C dX8_runScript_79 (by decide) ?_
    obtain ⟨S5, hc4, h⟩ := ob1_e h
    refine q_callSv0 C (kX8_copyTown n 114 (tyI_114) 0 115 (tyI_115) 0 S3 hc4) lm8_161 rfl (rest := []) rfl (Nat.le_of_ble_eq_true rfl) dX8_runScript_80 ⟨rfl, rfl, Nat.le_of_ble_eq_true rfl, Nat.le_of_ble_eq_true rfl, Nat.le_of_ble_eq_true rfl, Nat.le_of_ble_eq_true rfl⟩ ?_
    refine q_iconst (v := 0) C dX8_runScript_83 (by decide) ?_
    refine q_istore C (lv' := [(6, .int 0), (0, .ref (qa g 111)), (1, .int v1), (2, .long w2), (4, .long w4)]) dX8_runScript_84 (by decide) rfl ?_
    refine q_norm [1, 2, 3, 4, 0] rfl ?_
    exact W8_runScript_86 C hr n n v1 w2 w4 0 S5 h
  · refine q_iconst (v := 0) C dX8_runScript_68 (by decide) ?_
    obtain ⟨rfl, rfl⟩ := Prod.mk.inj (Option.some.inj h)
    exact q_iret C hr (Nat.le_refl 0) (Nat.le_refl 0) dX8_runScript_69
def B8_runScript_61 (n : Nat) (v1 : Int32) (w2 : Int64) (w4 : Int64) (S : qSt) : Option (Int32 × qSt) := B8_runScript_62 n v1 w2 w4 1 S
set_option maxRecDepth 100000 in
set_option maxHeartbeats 4000000 in
theorem W8_runScript_61 {r : Int32} {S2 : qSt} (C : qC g cX8_runScript RX8 8 p s m meth c) (hr : meth.sig.returnType = (some .int)) (n : Nat) (v1 : Int32) (w2 : Int64) (w4 : Int64) (S : qSt) (h : B8_runScript_61 n v1 w2 w4 S = some (r, S2)) : qR g NL qT 8 p l e rmX8_runScript s m args below meth c 0 0 (MQ below (qQi g NL qT (qmem g S2) r) args s 0 0 (qA g)) (qmem g S) 61 [(0, .ref (qa g 111)), (1, .int v1), (2, .long w2), (4, .long w4)] [.ref (qa g 111)] := by
  unfold B8_runScript_61 at h
  refine q_iconst (v := 1) C dX8_runScript_61 (by decide) ?_
  exact W8_runScript_62 C hr n v1 w2 w4 1 S h
def B8_runScript_32 (n : Nat) (v1 : Int32) (w2 : Int64) (w4 : Int64) (S : qSt) : Option (Int32 × qSt) := if (F8_in v1.toInt64 1 3 S) = 0 then (B8_runScript_61 n v1 w2 w4 S) else (if (F8_in w2 0 (w4 - 1) S) = 0 then (B8_runScript_61 n v1 w2 w4 S) else (B8_runScript_62 n v1 w2 w4 0 S))
set_option maxRecDepth 100000 in
set_option maxHeartbeats 4000000 in
theorem W8_runScript_32 {r : Int32} {S2 : qSt} (C : qC g cX8_runScript RX8 8 p s m meth c) (hr : meth.sig.returnType = (some .int)) (n : Nat) (v1 : Int32) (w2 : Int64) (w4 : Int64) (S : qSt) (h : B8_runScript_32 n v1 w2 w4 S = some (r, S2)) : qR g NL qT 8 p l e rmX8_runScript s m args below meth c 0 0 (MQ below (qQi g NL qT (qmem g S2) r) args s 0 0 (qA g)) (qmem g S) 32 [(0, .ref (qa g 111)), (1, .int v1), (2, .long w2), (4, .long w4)] [] := by
  unfold B8_runScript_32 at h
  refine q_aload_n C 0 dX8_runScript_32 rfl rfl ?_
  refine q_iload_n C 1 dX8_runScript_33 rfl rfl ?_
  refine q_i2l C dX8_runScript_34 rfl ?_
  refine q_lconst (v := 1) C dX8_runScript_35 (by decide) ?_
  refine q_ldc2 (v := 3) C lc8_185 dX8_runScript_36 ?_
  refine q_callSi0 C (kX8_in v1.toInt64 1 3 S) lm8_65 rfl (rest := [.ref (qa g 111)]) rfl (Nat.le_of_ble_eq_true rfl) dX8_runScript_39 ⟨rfl, rfl, Nat.le_of_ble_eq_true rfl, Nat.le_of_ble_eq_true rfl, Nat.le_of_ble_eq_true rfl, Nat.le_of_ble_eq_true rfl⟩ ?_
  refine q_if_eq (tgt := 61) C h dX8_runScript_42 (by decide) (fun h => ?_) (fun h => ?_)
  · exact W8_runScript_61 C hr n v1 w2 w4 S h
  · refine q_lload_n C 2 dX8_runScript_45 rfl rfl ?_
    refine q_lconst (v := 0) C dX8_runScript_46 (by decide) ?_
    refine q_lload C 3 dX8_runScript_47 rfl ?_
    refine q_lconst (v := 1) C dX8_runScript_49 (by decide) ?_
    refine q_lsub C dX8_runScript_50 ?_
    refine q_callSi0 C (kX8_in w2 0 (w4 - 1) S) lm8_65 rfl (rest := [.ref (qa g 111)]) rfl (Nat.le_of_ble_eq_true rfl) dX8_runScript_51 ⟨rfl, rfl, Nat.le_of_ble_eq_true rfl, Nat.le_of_ble_eq_true rfl, Nat.le_of_ble_eq_true rfl, Nat.le_of_ble_eq_true rfl⟩ ?_
    refine q_if_eq (tgt := 61) C h dX8_runScript_54 (by decide) (fun h => ?_) (fun h => ?_)
    · exact W8_runScript_61 C hr n v1 w2 w4 S h
    · refine q_iconst (v := 0) C dX8_runScript_57 (by decide) ?_
      refine q_goto (tgt := 62) C dX8_runScript_58 (by decide) ?_
      exact W8_runScript_62 C hr n v1 w2 w4 0 S h
def B8_runScript_6 (n : Nat) : Nat → Int32 → Int64 → Int64 → Int32 → qSt → Option (Int32 × qSt)
  | 0, _, _, _, _, _ => none
  | n9 + 1, v1, w2, w4, v6, S => if v1 ≤ v6 then (B8_runScript_32 n v1 w2 w4 S) else (if 3 ≤ v6 then (B8_runScript_32 n v1 w2 w4 S) else ((B8_runScript_6 n n9) v1 w2 (w4 * 100000) (v6 + 1) S))
set_option maxRecDepth 100000 in
set_option maxHeartbeats 4000000 in
theorem W8_runScript_6 {r : Int32} {S2 : qSt} (C : qC g cX8_runScript RX8 8 p s m meth c) (hr : meth.sig.returnType = (some .int)) (n : Nat) : ∀ (n9 : Nat) (v1 : Int32) (w2 : Int64) (w4 : Int64) (v6 : Int32) (S : qSt), B8_runScript_6 n n9 v1 w2 w4 v6 S = some (r, S2) → qR g NL qT 8 p l e rmX8_runScript s m args below meth c 0 0 (MQ below (qQi g NL qT (qmem g S2) r) args s 0 0 (qA g)) (qmem g S) 6 [(0, .ref (qa g 111)), (1, .int v1), (2, .long w2), (4, .long w4), (6, .int v6)] [] := by
  intro n9
  induction n9 with
  | zero =>
    intro v1 w2 w4 v6 S h
    have h9 : (none : Option (Int32 × qSt)) = some (r, S2) := h
    cases h9
  | succ n9 ih =>
    intro v1 w2 w4 v6 S h
    rw [B8_runScript_6] at h
    refine q_iload C 4 dX8_runScript_6 rfl ?_
    refine q_iload_n C 1 dX8_runScript_8 rfl rfl ?_
    refine q_icmp_ge (tgt := 32) C h dX8_runScript_9 (by decide) (fun h => ?_) (fun h => ?_)
    · refine q_norm [0, 1, 2, 3] rfl ?_
      exact W8_runScript_32 C hr n v1 w2 w4 S h
    · refine q_iload C 4 dX8_runScript_12 rfl ?_
      refine q_iconst (v := 3) C dX8_runScript_14 (by decide) ?_
      refine q_icmp_ge (tgt := 32) C h dX8_runScript_15 (by decide) (fun h => ?_) (fun h => ?_)
      · refine q_norm [0, 1, 2, 3] rfl ?_
        exact W8_runScript_32 C hr n v1 w2 w4 S h
      · refine q_lload C 3 dX8_runScript_18 rfl ?_
        refine q_ldc2 (v := 100000) C lc8_206 dX8_runScript_20 ?_
        refine q_lmul C dX8_runScript_23 ?_
        refine q_lstore C (lv' := [(4, .long (w4 * 100000)), (0, .ref (qa g 111)), (1, .int v1), (2, .long w2), (6, .int v6)]) dX8_runScript_24 (by decide) rfl ?_
        refine q_norm [1, 2, 3, 0, 4] rfl ?_
        refine q_iinc C 4 (v := v6 + 1) (lv' := [(6, .int (v6 + 1)), (0, .ref (qa g 111)), (1, .int v1), (2, .long w2), (4, .long (w4 * 100000))]) dX8_runScript_26 rfl rfl (by decide) rfl ?_
        refine q_norm [1, 2, 3, 4, 0] rfl ?_
        refine q_goto (tgt := 6) C dX8_runScript_29 (by decide) ?_
        exact ih v1 w2 (w4 * 100000) (v6 + 1) S h
def F8_runScript (n : Nat) (v1 : Int32) (w2 : Int64) (S : qSt) : Option (Int32 × qSt) := B8_runScript_6 n n v1 w2 1 0 S
set_option maxRecDepth 100000 in
set_option maxHeartbeats 4000000 in
theorem kX8_runScript {l : Launch} {g : qG} (n : Nat) (v1 : Int32) (w2 : Int64) (S : qSt) {r : Int32} {S2 : qSt} (h : F8_runScript n v1 w2 S = some (r, S2)) : Met l yX8_runScript [.code yX8_runScript cX8_runScript 8 (some .int)] rmX8_runScript (qPc g NL qT (qmem g S) [.ref (qa g 111), .int v1, .long w2]) (qQi g NL qT (qmem g S2) r) 0 0 (qA g) := by
  refine q_met (by decide) (Nat.le_of_ble_eq_true rfl) (fun p e s m args below meth c C hr _ => ?_)
  have C : qC g cX8_runScript RX8 8 p s m meth c := C
  show qR g NL qT 8 p l e rmX8_runScript s m args below meth c 0 0 (MQ below (qQi g NL qT (qmem g S2) r) args s 0 0 (qA g)) (qmem g S) 0 [(0, .ref (qa g 111)), (1, .int v1), (2, .long w2)] []
  unfold F8_runScript at h
  refine q_lconst (v := 1) C dX8_runScript_0 (by decide) ?_
  refine q_lstore C (lv' := [(4, .long 1), (0, .ref (qa g 111)), (1, .int v1), (2, .long w2)]) dX8_runScript_1 (by decide) rfl ?_
  refine q_norm [1, 2, 3, 0] rfl ?_
  refine q_iconst (v := 0) C dX8_runScript_3 (by decide) ?_
  refine q_istore C (lv' := [(6, .int 0), (0, .ref (qa g 111)), (1, .int v1), (2, .long w2), (4, .long 1)]) dX8_runScript_4 (by decide) rfl ?_
  refine q_norm [1, 2, 3, 4, 0] rfl ?_
  exact W8_runScript_6 C hr n n v1 w2 1 0 S h
/-! ClosedStreetsModel.simulate -/
abbrev rmX8_simulate : Room := { frames := 2, cells := 0, slots := 0, locals := 80 }
def B8_simulate_191 (n : Nat) (v4 : Int32) (v5 : Int32) (S : qSt) : Option (Int32 × qSt) := some ((100000 * v4) + v5, S)
set_option maxRecDepth 100000 in
set_option maxHeartbeats 4000000 in
theorem W8_simulate_191 {r : Int32} {S2 : qSt} (C : qC g cX8_simulate RX8 10 p s m meth c) (hr : meth.sig.returnType = (some .int)) (n : Nat) (v4 : Int32) (v5 : Int32) (S : qSt) (h : B8_simulate_191 n v4 v5 S = some (r, S2)) : qR g NL qT 10 p l e rmX8_simulate s m args below meth c 0 0 (MQ below (qQi g NL qT (qmem g S2) r) args s 0 0 (qA g)) (qmem g S) 191 [(4, .int v4), (5, .int v5)] [] := by
  unfold B8_simulate_191 at h
  refine q_ldc (v := 100000) C lc8_218 dX8_simulate_191 ?_
  refine q_iload C 0 dX8_simulate_193 rfl ?_
  refine q_imul C dX8_simulate_195 ?_
  refine q_iload C 1 dX8_simulate_196 rfl ?_
  refine q_iadd C dX8_simulate_198 ?_
  obtain ⟨rfl, rfl⟩ := Prod.mk.inj (Option.some.inj h)
  exact q_iret C hr (Nat.le_refl 0) (Nat.le_refl 0) dX8_simulate_199
def B8_simulate_182 (n : Nat) (K38 : Int32 → Int32 → Int32 → Int64 → Int32 → qSt → Option (Int32 × qSt)) (v3 : Int32) (v4 : Int32) (w6 : Int64) (v8 : Int32) (t0 : Int32) (t1 : Int32) (S : qSt) : Option (Int32 × qSt) := K38 v3 v4 (t0 + t1) w6 (v8 + 1) S
set_option maxRecDepth 100000 in
set_option maxHeartbeats 4000000 in
theorem W8_simulate_182 {r : Int32} {S2 : qSt} (C : qC g cX8_simulate RX8 10 p s m meth c) (hr : meth.sig.returnType = (some .int)) (n : Nat) (K38 : Int32 → Int32 → Int32 → Int64 → Int32 → qSt → Option (Int32 × qSt)) (hK38 : ∀ (v3 : Int32) (v4 : Int32) (v5 : Int32) (w6 : Int64) (v8 : Int32) (S : qSt), K38 v3 v4 v5 w6 v8 S = some (r, S2) → qR g NL qT 10 p l e rmX8_simulate s m args below meth c 0 0 (MQ below (qQi g NL qT (qmem g S2) r) args s 0 0 (qA g)) (qmem g S) 38 [(0, .ref (qa g 111)), (3, .int v3), (4, .int v4), (5, .int v5), (6, .long w6), (8, .int v8)] []) (v3 : Int32) (v4 : Int32) (w6 : Int64) (v8 : Int32) (t0 : Int32) (t1 : Int32) (S : qSt) (h : B8_simulate_182 n K38 v3 v4 w6 v8 t0 t1 S = some (r, S2)) : qR g NL qT 10 p l e rmX8_simulate s m args below meth c 0 0 (MQ below (qQi g NL qT (qmem g S2) r) args s 0 0 (qA g)) (qmem g S) 182 [(0, .ref (qa g 111)), (3, .int v3), (4, .int v4), (6, .long w6), (8, .int v8)] [.int t1, .int t0] := by
  unfold B8_simulate_182 at h
  refine q_iadd C dX8_simulate_182 ?_
  refine q_istore C (lv' := [(5, .int (t0 + t1)), (0, .ref (qa g 111)), (3, .int v3), (4, .int v4), (6, .long w6), (8, .int v8)]) dX8_simulate_183 (by decide) rfl ?_
  refine q_norm [1, 2, 3, 0, 4, 5] rfl ?_
  refine q_iinc C 5 (v := v8 + 1) (lv' := [(8, .int (v8 + 1)), (0, .ref (qa g 111)), (3, .int v3), (4, .int v4), (5, .int (t0 + t1)), (6, .long w6)]) dX8_simulate_185 rfl rfl (by decide) rfl ?_
  refine q_norm [1, 2, 3, 4, 5, 0] rfl ?_
  refine q_goto (tgt := 38) C dX8_simulate_188 (by decide) ?_
  exact hK38 v3 v4 (t0 + t1) w6 (v8 + 1) S h
def B8_simulate_163 (n : Nat) (K38 : Int32 → Int32 → Int32 → Int64 → Int32 → qSt → Option (Int32 × qSt)) (v3 : Int32) (v5 : Int32) (w6 : Int64) (v8 : Int32) (v9 : Int32) (t0 : Int32) (t1 : Int32) (S : qSt) : Option (Int32 × qSt) := if ¬ v9 = (-999) then (B8_simulate_182 n K38 v3 (t0 + t1) w6 v8 v5 v9 S) else (B8_simulate_182 n K38 v3 (t0 + t1) w6 v8 v5 0 S)
set_option maxRecDepth 100000 in
set_option maxHeartbeats 4000000 in
theorem W8_simulate_163 {r : Int32} {S2 : qSt} (C : qC g cX8_simulate RX8 10 p s m meth c) (hr : meth.sig.returnType = (some .int)) (n : Nat) (K38 : Int32 → Int32 → Int32 → Int64 → Int32 → qSt → Option (Int32 × qSt)) (hK38 : ∀ (v3 : Int32) (v4 : Int32) (v5 : Int32) (w6 : Int64) (v8 : Int32) (S : qSt), K38 v3 v4 v5 w6 v8 S = some (r, S2) → qR g NL qT 10 p l e rmX8_simulate s m args below meth c 0 0 (MQ below (qQi g NL qT (qmem g S2) r) args s 0 0 (qA g)) (qmem g S) 38 [(0, .ref (qa g 111)), (3, .int v3), (4, .int v4), (5, .int v5), (6, .long w6), (8, .int v8)] []) (v3 : Int32) (v5 : Int32) (w6 : Int64) (v8 : Int32) (v9 : Int32) (t0 : Int32) (t1 : Int32) (S : qSt) (h : B8_simulate_163 n K38 v3 v5 w6 v8 v9 t0 t1 S = some (r, S2)) : qR g NL qT 10 p l e rmX8_simulate s m args below meth c 0 0 (MQ below (qQi g NL qT (qmem g S2) r) args s 0 0 (qA g)) (qmem g S) 163 [(0, .ref (qa g 111)), (3, .int v3), (5, .int v5), (6, .long w6), (8, .int v8), (9, .int v9)] [.int t1, .int t0] := by
  unfold B8_simulate_163 at h
  refine q_iadd C dX8_simulate_163 ?_
  refine q_istore C (lv' := [(4, .int (t0 + t1)), (0, .ref (qa g 111)), (3, .int v3), (5, .int v5), (6, .long w6), (8, .int v8), (9, .int v9)]) dX8_simulate_164 (by decide) rfl ?_
  refine q_norm [1, 2, 0, 3, 4, 5, 6] rfl ?_
  refine q_iload C 3 dX8_simulate_166 rfl ?_
  refine q_iload C 6 dX8_simulate_168 rfl ?_
  refine q_sipush (v := (-999)) C dX8_simulate_170 (by decide) ?_
  refine q_icmp_ne (tgt := 180) C h dX8_simulate_173 (by decide) (fun h => ?_) (fun h => ?_)
  · refine q_iload C 6 dX8_simulate_180 rfl ?_
    refine q_norm [0, 1, 2, 4, 5] rfl ?_
    exact W8_simulate_182 C hr n K38 hK38 v3 (t0 + t1) w6 v8 v5 v9 S h
  · refine q_iconst (v := 0) C dX8_simulate_176 (by decide) ?_
    refine q_goto (tgt := 182) C dX8_simulate_177 (by decide) ?_
    refine q_norm [0, 1, 2, 4, 5] rfl ?_
    exact W8_simulate_182 C hr n K38 hK38 v3 (t0 + t1) w6 v8 v5 0 S h
def B8_simulate_138 (n : Nat) (K38 : Int32 → Int32 → Int32 → Int64 → Int32 → qSt → Option (Int32 × qSt)) (v3 : Int32) (v4 : Int32) (v5 : Int32) (w6 : Int64) (v8 : Int32) (S : qSt) : Option (Int32 × qSt) := ob2 (F8_best n 114 S) fun r7 S8 => if ¬ r7 = (-999) then (B8_simulate_163 n K38 v3 v5 w6 v8 r7 v4 0 S8) else (B8_simulate_163 n K38 v3 v5 w6 v8 r7 v4 1 S8)
set_option maxRecDepth 100000 in
set_option maxHeartbeats 4000000 in
theorem W8_simulate_138 {r : Int32} {S2 : qSt} (C : qC g cX8_simulate RX8 10 p s m meth c) (hr : meth.sig.returnType = (some .int)) (n : Nat) (K38 : Int32 → Int32 → Int32 → Int64 → Int32 → qSt → Option (Int32 × qSt)) (hK38 : ∀ (v3 : Int32) (v4 : Int32) (v5 : Int32) (w6 : Int64) (v8 : Int32) (S : qSt), K38 v3 v4 v5 w6 v8 S = some (r, S2) → qR g NL qT 10 p l e rmX8_simulate s m args below meth c 0 0 (MQ below (qQi g NL qT (qmem g S2) r) args s 0 0 (qA g)) (qmem g S) 38 [(0, .ref (qa g 111)), (3, .int v3), (4, .int v4), (5, .int v5), (6, .long w6), (8, .int v8)] []) (v3 : Int32) (v4 : Int32) (v5 : Int32) (w6 : Int64) (v8 : Int32) (S : qSt) (h : B8_simulate_138 n K38 v3 v4 v5 w6 v8 S = some (r, S2)) : qR g NL qT 10 p l e rmX8_simulate s m args below meth c 0 0 (MQ below (qQi g NL qT (qmem g S2) r) args s 0 0 (qA g)) (qmem g S) 138 [(0, .ref (qa g 111)), (3, .int v3), (4, .int v4), (5, .int v5), (6, .long w6), (8, .int v8)] [] := by
  unfold B8_simulate_138 at h
  refine q_aload_n C 0 dX8_simulate_138 rfl rfl ?_
  refine q_aload_n C 0 dX8_simulate_139 rfl rfl ?_
  refine s_getr (a := 114) C lf8_16 ltp_111 kd_111 rfl dX8_simulate_140 ?_
  obtain ⟨r7, S8, hc6, h⟩ := ob2_e h
  refine q_callVi0 C ltp_111 (qmem_o kd_111 (Nat.le_of_ble_eq_true rfl)) rfl rfl (kX8_best n 114 (tyI_114) S hc6) lm8_84 rfl (rest := []) rfl (Nat.le_of_ble_eq_true rfl) dX8_simulate_143 ⟨rfl, rfl, Nat.le_of_ble_eq_true rfl, Nat.le_of_ble_eq_true rfl, Nat.le_of_ble_eq_true rfl, Nat.le_of_ble_eq_true rfl⟩ ?_
  refine q_istore C (lv' := [(9, .int r7), (0, .ref (qa g 111)), (3, .int v3), (4, .int v4), (5, .int v5), (6, .long w6), (8, .int v8)]) dX8_simulate_146 (by decide) rfl ?_
  refine q_norm [1, 2, 3, 4, 5, 6, 0] rfl ?_
  refine q_iload C 2 dX8_simulate_148 rfl ?_
  refine q_iload C 6 dX8_simulate_150 rfl ?_
  refine q_sipush (v := (-999)) C dX8_simulate_152 (by decide) ?_
  refine q_icmp_ne (tgt := 162) C h dX8_simulate_155 (by decide) (fun h => ?_) (fun h => ?_)
  · refine q_iconst (v := 0) C dX8_simulate_162 (by decide) ?_
    refine q_norm [0, 1, 3, 4, 5, 6] rfl ?_
    exact W8_simulate_163 C hr n K38 hK38 v3 v5 w6 v8 r7 v4 0 S8 h
  · refine q_iconst (v := 1) C dX8_simulate_158 (by decide) ?_
    refine q_goto (tgt := 163) C dX8_simulate_159 (by decide) ?_
    refine q_norm [0, 1, 3, 4, 5, 6] rfl ?_
    exact W8_simulate_163 C hr n K38 hK38 v3 v5 w6 v8 r7 v4 1 S8 h
def B8_simulate_132 (n : Nat) (K38 : Int32 → Int32 → Int32 → Int64 → Int32 → qSt → Option (Int32 × qSt)) (K58 : Int32 → Int32 → Int32 → Int64 → Int32 → Int32 → qSt → Option (Int32 × qSt)) (v3 : Int32) (v4 : Int32) (v5 : Int32) (w6 : Int64) (v8 : Int32) (v9 : Int32) (S : qSt) : Option (Int32 × qSt) := K58 v3 v4 v5 w6 v8 (v9 + 1) S
set_option maxRecDepth 100000 in
set_option maxHeartbeats 4000000 in
theorem W8_simulate_132 {r : Int32} {S2 : qSt} (C : qC g cX8_simulate RX8 10 p s m meth c) (hr : meth.sig.returnType = (some .int)) (n : Nat) (K38 : Int32 → Int32 → Int32 → Int64 → Int32 → qSt → Option (Int32 × qSt)) (hK38 : ∀ (v3 : Int32) (v4 : Int32) (v5 : Int32) (w6 : Int64) (v8 : Int32) (S : qSt), K38 v3 v4 v5 w6 v8 S = some (r, S2) → qR g NL qT 10 p l e rmX8_simulate s m args below meth c 0 0 (MQ below (qQi g NL qT (qmem g S2) r) args s 0 0 (qA g)) (qmem g S) 38 [(0, .ref (qa g 111)), (3, .int v3), (4, .int v4), (5, .int v5), (6, .long w6), (8, .int v8)] []) (K58 : Int32 → Int32 → Int32 → Int64 → Int32 → Int32 → qSt → Option (Int32 × qSt)) (hK58 : ∀ (v3 : Int32) (v4 : Int32) (v5 : Int32) (w6 : Int64) (v8 : Int32) (v9 : Int32) (S : qSt), K58 v3 v4 v5 w6 v8 v9 S = some (r, S2) → qR g NL qT 10 p l e rmX8_simulate s m args below meth c 0 0 (MQ below (qQi g NL qT (qmem g S2) r) args s 0 0 (qA g)) (qmem g S) 58 [(0, .ref (qa g 111)), (3, .int v3), (4, .int v4), (5, .int v5), (6, .long w6), (8, .int v8), (9, .int v9)] []) (v3 : Int32) (v4 : Int32) (v5 : Int32) (w6 : Int64) (v8 : Int32) (v9 : Int32) (S : qSt) (h : B8_simulate_132 n K38 K58 v3 v4 v5 w6 v8 v9 S = some (r, S2)) : qR g NL qT 10 p l e rmX8_simulate s m args below meth c 0 0 (MQ below (qQi g NL qT (qmem g S2) r) args s 0 0 (qA g)) (qmem g S) 132 [(0, .ref (qa g 111)), (3, .int v3), (4, .int v4), (5, .int v5), (6, .long w6), (8, .int v8), (9, .int v9)] [] := by
  unfold B8_simulate_132 at h
  refine q_iinc C 6 (v := v9 + 1) (lv' := [(9, .int (v9 + 1)), (0, .ref (qa g 111)), (3, .int v3), (4, .int v4), (5, .int v5), (6, .long w6), (8, .int v8)]) dX8_simulate_132 rfl rfl (by decide) rfl ?_
  refine q_norm [1, 2, 3, 4, 5, 6, 0] rfl ?_
  refine q_goto (tgt := 58) C dX8_simulate_135 (by decide) ?_
  exact hK58 v3 v4 v5 w6 v8 (v9 + 1) S h
def B8_simulate_58 (n : Nat) (K38 : Int32 → Int32 → Int32 → Int64 → Int32 → qSt → Option (Int32 × qSt)) : Nat → Int32 → Int32 → Int32 → Int64 → Int32 → Int32 → qSt → Option (Int32 × qSt)
  | 0, _, _, _, _, _, _, _ => none
  | n9 + 1, v3, v4, v5, w6, v8, v9, S => if (S 114 (1 : Int32).toNatClampNeg) ≤ v9 then (B8_simulate_138 n K38 v3 v4 v5 w6 v8 S) else (if qin (64 + v9) 84 = true then if ¬ (S 114 (64 + v9).toNatClampNeg) = 0 then (B8_simulate_132 n K38 (B8_simulate_58 n K38 n9) v3 v4 v5 w6 v8 v9 S) else (obs ((w6 * 6364136223846793005) + 1442695040888963407) fun x10 => if ¬ (lg_cmp (((x10.toUInt64 >>> ((33 : Int32).toInt64.toUInt64 &&& Int64.toUInt64 63)).toInt64) - ((x10.toUInt64 >>> ((33 : Int32).toInt64.toUInt64 &&& Int64.toUInt64 63)).toInt64) / 4 * 4) 0) = 0 then (B8_simulate_132 n K38 (B8_simulate_58 n K38 n9) v3 v4 v5 x10 v8 v9 S) else (if qin (4 + v9) 84 = true then if qin (24 + v9) 84 = true then ob1 (F8_price (S 114 (4 + v9).toNatClampNeg) (S 114 (24 + v9).toNatClampNeg) 0 S) fun S14 => B8_simulate_132 n K38 (B8_simulate_58 n K38 n9) v3 v4 v5 x10 v8 v9 S14 else none else none)) else none)
set_option maxRecDepth 100000 in
set_option maxHeartbeats 4000000 in
theorem W8_simulate_58 {r : Int32} {S2 : qSt} (C : qC g cX8_simulate RX8 10 p s m meth c) (hr : meth.sig.returnType = (some .int)) (n : Nat) (K38 : Int32 → Int32 → Int32 → Int64 → Int32 → qSt → Option (Int32 × qSt)) (hK38 : ∀ (v3 : Int32) (v4 : Int32) (v5 : Int32) (w6 : Int64) (v8 : Int32) (S : qSt), K38 v3 v4 v5 w6 v8 S = some (r, S2) → qR g NL qT 10 p l e rmX8_simulate s m args below meth c 0 0 (MQ below (qQi g NL qT (qmem g S2) r) args s 0 0 (qA g)) (qmem g S) 38 [(0, .ref (qa g 111)), (3, .int v3), (4, .int v4), (5, .int v5), (6, .long w6), (8, .int v8)] []) : ∀ (n9 : Nat) (v3 : Int32) (v4 : Int32) (v5 : Int32) (w6 : Int64) (v8 : Int32) (v9 : Int32) (S : qSt), B8_simulate_58 n K38 n9 v3 v4 v5 w6 v8 v9 S = some (r, S2) → qR g NL qT 10 p l e rmX8_simulate s m args below meth c 0 0 (MQ below (qQi g NL qT (qmem g S2) r) args s 0 0 (qA g)) (qmem g S) 58 [(0, .ref (qa g 111)), (3, .int v3), (4, .int v4), (5, .int v5), (6, .long w6), (8, .int v8), (9, .int v9)] [] := by
  intro n9
  induction n9 with
  | zero =>
    intro v3 v4 v5 w6 v8 v9 S h
    have h9 : (none : Option (Int32 × qSt)) = some (r, S2) := h
    cases h9
  | succ n9 ih =>
    intro v3 v4 v5 w6 v8 v9 S h
    rw [B8_simulate_58] at h
    refine q_iload C 6 dX8_simulate_58 rfl ?_
    refine q_aload_n C 0 dX8_simulate_60 rfl rfl ?_
    refine s_getr (a := 114) C lf8_16 ltp_111 kd_111 rfl dX8_simulate_61 ?_
    refine q_iconst (v := 1) C dX8_simulate_64 (by decide) ?_
    refine s_iald C ltp_114 kd_114 (by decide) dX8_simulate_65 ?_
    refine q_icmp_ge (tgt := 138) C h dX8_simulate_66 (by decide) (fun h => ?_) (fun h => ?_)
    · refine q_norm [0, 1, 2, 3, 4, 5] rfl ?_
      exact W8_simulate_138 C hr n K38 hK38 v3 v4 v5 w6 v8 S h
    · refine q_aload_n C 0 dX8_simulate_69 rfl rfl ?_
      refine s_getr (a := 114) C lf8_16 ltp_111 kd_111 rfl dX8_simulate_70 ?_
      refine q_bipush (v := 64) C dX8_simulate_73 (by decide) ?_
      refine q_iload C 6 dX8_simulate_75 rfl ?_
      refine q_iadd C dX8_simulate_77 ?_
      obtain ⟨hb9, h⟩ := q_if h
      refine s_iald C ltp_114 kd_114 hb9 dX8_simulate_78 ?_
      refine q_if_ne (tgt := 132) C h dX8_simulate_79 (by decide) (fun h => ?_) (fun h => ?_)
      · exact W8_simulate_132 C hr n K38 hK38 (B8_simulate_58 n K38 n9) ih v3 v4 v5 w6 v8 v9 S h
      · refine q_lload C 4 dX8_simulate_82 rfl ?_
        refine q_ldc2 (v := 6364136223846793005) C lc8_214 dX8_simulate_84 ?_
        refine q_lmul C dX8_simulate_87 ?_
        refine q_ldc2 (v := 1442695040888963407) C lc8_216 dX8_simulate_88 ?_
        refine q_ladd C dX8_simulate_91 ?_
        obtain ⟨x10, hx10, h⟩ := obs_e h
        rw [← hx10]
        refine q_lstore C (lv' := [(6, .long x10), (0, .ref (qa g 111)), (3, .int v3), (4, .int v4), (5, .int v5), (8, .int v8), (9, .int v9)]) dX8_simulate_92 (by decide) rfl ?_
        refine q_norm [1, 2, 3, 4, 0, 5, 6] rfl ?_
        refine q_lload C 4 dX8_simulate_94 rfl ?_
        refine q_bipush (v := 33) C dX8_simulate_96 (by decide) ?_
        refine q_lushr C dX8_simulate_98 rfl ?_
        refine q_ldc2 (v := 4) C lc8_177 dX8_simulate_99 ?_
        refine q_lrem C dX8_simulate_102 (by decide) ?_
        refine q_lconst (v := 0) C dX8_simulate_103 (by decide) ?_
        refine q_lcmp C dX8_simulate_104 ?_
        refine q_if_ne (tgt := 132) C h dX8_simulate_105 (by decide) (fun h => ?_) (fun h => ?_)
        · exact W8_simulate_132 C hr n K38 hK38 (B8_simulate_58 n K38 n9) ih v3 v4 v5 x10 v8 v9 S h
        · refine q_aload_n C 0 dX8_simulate_108 rfl rfl ?_
          refine q_aload_n C 0 dX8_simulate_109 rfl rfl ?_
          refine s_getr (a := 114) C lf8_16 ltp_111 kd_111 rfl dX8_simulate_110 ?_
          refine q_iconst (v := 4) C dX8_simulate_113 (by decide) ?_
          refine q_iload C 6 dX8_simulate_114 rfl ?_
          refine q_iadd C dX8_simulate_116 ?_
          obtain ⟨hb11, h⟩ := q_if h
          refine s_iald C ltp_114 kd_114 hb11 dX8_simulate_117 ?_
          refine q_aload_n C 0 dX8_simulate_118 rfl rfl ?_
          refine s_getr (a := 114) C lf8_16 ltp_111 kd_111 rfl dX8_simulate_119 ?_
          refine q_bipush (v := 24) C dX8_simulate_122 (by decide) ?_
          refine q_iload C 6 dX8_simulate_124 rfl ?_
          refine q_iadd C dX8_simulate_126 ?_
          obtain ⟨hb12, h⟩ := q_if h
          refine s_iald C ltp_114 kd_114 hb12 dX8_simulate_127 ?_
          refine q_iconst (v := 0) C dX8_simulate_128 (by decide) ?_
          obtain ⟨S14, hc13, h⟩ := ob1_e h
          refine q_callVv0 C ltp_111 (qmem_o kd_111 (Nat.le_of_ble_eq_true rfl)) rfl rfl (kX8_price (S 114 (4 + v9).toNatClampNeg) (S 114 (24 + v9).toNatClampNeg) 0 S hc13) lm8_69 rfl (rest := []) rfl (Nat.le_of_ble_eq_true rfl) dX8_simulate_129 ⟨rfl, rfl, Nat.le_of_ble_eq_true rfl, Nat.le_of_ble_eq_true rfl, Nat.le_of_ble_eq_true rfl, Nat.le_of_ble_eq_true rfl⟩ ?_
          exact W8_simulate_132 C hr n K38 hK38 (B8_simulate_58 n K38 n9) ih v3 v4 v5 x10 v8 v9 S14 h
def B8_simulate_38 (n : Nat) : Nat → Int32 → Int32 → Int32 → Int64 → Int32 → qSt → Option (Int32 × qSt)
  | 0, _, _, _, _, _, _ => none
  | n9 + 1, v3, v4, v5, w6, v8, S => if v3 ≤ v8 then (B8_simulate_191 n v4 v5 S) else (ob1 (F8_layCosts n 114 (-999) S) fun S5 => B8_simulate_58 n (B8_simulate_38 n n9) n v3 v4 v5 w6 v8 0 S5)
set_option maxRecDepth 100000 in
set_option maxHeartbeats 4000000 in
theorem W8_simulate_38 {r : Int32} {S2 : qSt} (C : qC g cX8_simulate RX8 10 p s m meth c) (hr : meth.sig.returnType = (some .int)) (n : Nat) : ∀ (n9 : Nat) (v3 : Int32) (v4 : Int32) (v5 : Int32) (w6 : Int64) (v8 : Int32) (S : qSt), B8_simulate_38 n n9 v3 v4 v5 w6 v8 S = some (r, S2) → qR g NL qT 10 p l e rmX8_simulate s m args below meth c 0 0 (MQ below (qQi g NL qT (qmem g S2) r) args s 0 0 (qA g)) (qmem g S) 38 [(0, .ref (qa g 111)), (3, .int v3), (4, .int v4), (5, .int v5), (6, .long w6), (8, .int v8)] [] := by
  intro n9
  induction n9 with
  | zero =>
    intro v3 v4 v5 w6 v8 S h
    have h9 : (none : Option (Int32 × qSt)) = some (r, S2) := h
    cases h9
  | succ n9 ih =>
    intro v3 v4 v5 w6 v8 S h
    rw [B8_simulate_38] at h
    refine q_iload C 5 dX8_simulate_38 rfl ?_
    refine q_iload_n C 1 dX8_simulate_40 rfl rfl ?_
    refine q_icmp_ge (tgt := 191) C h dX8_simulate_41 (by decide) (fun h => ?_) (fun h => ?_)
    · refine q_norm [2, 3] rfl ?_
      exact W8_simulate_191 C hr n v4 v5 S h
    · refine q_aload_n C 0 dX8_simulate_44 rfl rfl ?_
      refine q_aload_n C 0 dX8_simulate_45 rfl rfl ?_
      refine s_getr (a := 114) C lf8_16 ltp_111 kd_111 rfl dX8_simulate_46 ?_
      refine q_sipush (v := (-999)) C dX8_simulate_49 (by decide) ?_
      obtain ⟨S5, hc4, h⟩ := ob1_e h
      refine q_callVv0 C ltp_111 (qmem_o kd_111 (Nat.le_of_ble_eq_true rfl)) rfl rfl (kX8_layCosts n 114 (tyI_114) (-999) S hc4) lm8_81 rfl (rest := []) rfl (Nat.le_of_ble_eq_true rfl) dX8_simulate_52 ⟨rfl, rfl, Nat.le_of_ble_eq_true rfl, Nat.le_of_ble_eq_true rfl, Nat.le_of_ble_eq_true rfl, Nat.le_of_ble_eq_true rfl⟩ ?_
      refine q_iconst (v := 0) C dX8_simulate_55 (by decide) ?_
      refine q_istore C (lv' := [(9, .int 0), (0, .ref (qa g 111)), (3, .int v3), (4, .int v4), (5, .int v5), (6, .long w6), (8, .int v8)]) dX8_simulate_56 (by decide) rfl ?_
      refine q_norm [1, 2, 3, 4, 5, 6, 0] rfl ?_
      exact W8_simulate_58 C hr n (B8_simulate_38 n n9) ih n v3 v4 v5 w6 v8 0 S5 h
def B8_simulate_18 (n : Nat) (w1 : Int64) (v3 : Int32) (t1 : Int32) (S : qSt) : Option (Int32 × qSt) := ob2 (F8_refused t1 S) fun r2 S3 => if r2 = 0 then (B8_simulate_38 n n v3 0 0 w1 0 S3) else (some (0, S3))
set_option maxRecDepth 100000 in
set_option maxHeartbeats 4000000 in
theorem W8_simulate_18 {r : Int32} {S2 : qSt} (C : qC g cX8_simulate RX8 10 p s m meth c) (hr : meth.sig.returnType = (some .int)) (n : Nat) (w1 : Int64) (v3 : Int32) (t1 : Int32) (S : qSt) (h : B8_simulate_18 n w1 v3 t1 S = some (r, S2)) : qR g NL qT 10 p l e rmX8_simulate s m args below meth c 0 0 (MQ below (qQi g NL qT (qmem g S2) r) args s 0 0 (qA g)) (qmem g S) 18 [(0, .ref (qa g 111)), (1, .long w1), (3, .int v3)] [.int t1, .ref (qa g 111)] := by
  unfold B8_simulate_18 at h
  obtain ⟨r2, S3, hc1, h⟩ := ob2_e h
  refine q_callVi0 C ltp_111 (qmem_o kd_111 (Nat.le_of_ble_eq_true rfl)) rfl rfl (kX8_refused t1 S hc1) lm8_103 rfl (rest := []) rfl (Nat.le_of_ble_eq_true rfl) dX8_simulate_18 ⟨rfl, rfl, Nat.le_of_ble_eq_true rfl, Nat.le_of_ble_eq_true rfl, Nat.le_of_ble_eq_true rfl, Nat.le_of_ble_eq_true rfl⟩ ?_
  refine q_if_eq (tgt := 26) C h dX8_simulate_21 (by decide) (fun h => ?_) (fun h => ?_)
  · refine q_iconst (v := 0) C dX8_simulate_26 (by decide) ?_
    refine q_istore C (lv' := [(4, .int 0), (0, .ref (qa g 111)), (1, .long w1), (3, .int v3)]) dX8_simulate_27 (by decide) rfl ?_
    refine q_norm [1, 2, 3, 0] rfl ?_
    refine q_iconst (v := 0) C dX8_simulate_29 (by decide) ?_
    refine q_istore C (lv' := [(5, .int 0), (0, .ref (qa g 111)), (1, .long w1), (3, .int v3), (4, .int 0)]) dX8_simulate_30 (by decide) rfl ?_
    refine q_norm [1, 2, 3, 4, 0] rfl ?_
    refine q_lload_n C 1 dX8_simulate_32 rfl rfl ?_
    refine q_lstore C (lv' := [(6, .long w1), (0, .ref (qa g 111)), (1, .long w1), (3, .int v3), (4, .int 0), (5, .int 0)]) dX8_simulate_33 (by decide) rfl ?_
    refine q_norm [1, 2, 3, 4, 5, 0] rfl ?_
    refine q_iconst (v := 0) C dX8_simulate_35 (by decide) ?_
    refine q_istore C (lv' := [(8, .int 0), (0, .ref (qa g 111)), (1, .long w1), (3, .int v3), (4, .int 0), (5, .int 0), (6, .long w1)]) dX8_simulate_36 (by decide) rfl ?_
    refine q_norm [1, 2, 3, 4, 5, 6, 0] rfl ?_
    refine q_norm [0, 2, 3, 4, 5, 6] rfl ?_
    exact W8_simulate_38 C hr n n v3 0 0 w1 0 S3 h
  · refine q_iconst (v := 0) C dX8_simulate_24 (by decide) ?_
    obtain ⟨rfl, rfl⟩ := Prod.mk.inj (Option.some.inj h)
    exact q_iret C hr (Nat.le_refl 0) (Nat.le_refl 0) dX8_simulate_25
def F8_simulate (n : Nat) (w1 : Int64) (v3 : Int32) (S : qSt) : Option (Int32 × qSt) := if (F8_in v3.toInt64 1 60 S) = 0 then (B8_simulate_18 n w1 v3 1 S) else (B8_simulate_18 n w1 v3 0 S)
set_option maxRecDepth 100000 in
set_option maxHeartbeats 4000000 in
theorem kX8_simulate {l : Launch} {g : qG} (n : Nat) (w1 : Int64) (v3 : Int32) (S : qSt) {r : Int32} {S2 : qSt} (h : F8_simulate n w1 v3 S = some (r, S2)) : Met l yX8_simulate [.code yX8_simulate cX8_simulate 10 (some .int)] rmX8_simulate (qPc g NL qT (qmem g S) [.ref (qa g 111), .long w1, .int v3]) (qQi g NL qT (qmem g S2) r) 0 0 (qA g) := by
  refine q_met (by decide) (Nat.le_of_ble_eq_true rfl) (fun p e s m args below meth c C hr _ => ?_)
  have C : qC g cX8_simulate RX8 10 p s m meth c := C
  show qR g NL qT 10 p l e rmX8_simulate s m args below meth c 0 0 (MQ below (qQi g NL qT (qmem g S2) r) args s 0 0 (qA g)) (qmem g S) 0 [(0, .ref (qa g 111)), (1, .long w1), (3, .int v3)] []
  unfold F8_simulate at h
  refine q_aload_n C 0 dX8_simulate_0 rfl rfl ?_
  refine q_iload_n C 2 dX8_simulate_1 rfl rfl ?_
  refine q_i2l C dX8_simulate_2 rfl ?_
  refine q_lconst (v := 1) C dX8_simulate_3 (by decide) ?_
  refine q_ldc2 (v := 60) C lc8_212 dX8_simulate_4 ?_
  refine q_callSi0 C (kX8_in v3.toInt64 1 60 S) lm8_65 rfl (rest := [.ref (qa g 111)]) rfl (Nat.le_of_ble_eq_true rfl) dX8_simulate_7 ⟨rfl, rfl, Nat.le_of_ble_eq_true rfl, Nat.le_of_ble_eq_true rfl, Nat.le_of_ble_eq_true rfl, Nat.le_of_ble_eq_true rfl⟩ ?_
  refine q_if_eq (tgt := 17) C h dX8_simulate_10 (by decide) (fun h => ?_) (fun h => ?_)
  · refine q_iconst (v := 1) C dX8_simulate_17 (by decide) ?_
    exact W8_simulate_18 C hr n w1 v3 1 S h
  · refine q_iconst (v := 0) C dX8_simulate_13 (by decide) ?_
    refine q_goto (tgt := 18) C dX8_simulate_14 (by decide) ?_
    exact W8_simulate_18 C hr n w1 v3 0 S h
/-! ClosedStreetsModel.save -/
abbrev rmX8_save : Room := { frames := 1, cells := 0, slots := 0, locals := 40 }
def B8_save_16 (n : Nat) (v1 : Int32) (t1 : Int32) (S : qSt) : Option (Int32 × qSt) := ob2 (F8_refused t1 S) fun r2 S3 => if r2 = 0 then (ob1 (F8_copyTown n 114 0 117 (84 * v1) S3) fun S5 => if qin v1 2 = true then obs (qup S5 118 v1.toNatClampNeg ((1 : Int32) &&& 1)) fun S7 => some (S7 114 (1 : Int32).toNatClampNeg, S7) else none) else (some (0, S3))
set_option maxRecDepth 100000 in
set_option maxHeartbeats 4000000 in
theorem W8_save_16 {r : Int32} {S2 : qSt} (C : qC g cX8_save RX8 2 p s m meth c) (hr : meth.sig.returnType = (some .int)) (n : Nat) (v1 : Int32) (t1 : Int32) (S : qSt) (h : B8_save_16 n v1 t1 S = some (r, S2)) : qR g NL qT 2 p l e rmX8_save s m args below meth c 0 0 (MQ below (qQi g NL qT (qmem g S2) r) args s 0 0 (qA g)) (qmem g S) 16 [(0, .ref (qa g 111)), (1, .int v1)] [.int t1, .ref (qa g 111)] := by
  unfold B8_save_16 at h
  obtain ⟨r2, S3, hc1, h⟩ := ob2_e h
  refine q_callVi0 C ltp_111 (qmem_o kd_111 (Nat.le_of_ble_eq_true rfl)) rfl rfl (kX8_refused t1 S hc1) lm8_103 rfl (rest := []) rfl (Nat.le_of_ble_eq_true rfl) dX8_save_16 ⟨rfl, rfl, Nat.le_of_ble_eq_true rfl, Nat.le_of_ble_eq_true rfl, Nat.le_of_ble_eq_true rfl, Nat.le_of_ble_eq_true rfl⟩ ?_
  refine q_if_eq (tgt := 24) C h dX8_save_19 (by decide) (fun h => ?_) (fun h => ?_)
  · refine q_aload_n C 0 dX8_save_24 rfl rfl ?_
    refine s_getr (a := 114) C lf8_16 ltp_111 kd_111 rfl dX8_save_25 ?_
    refine q_iconst (v := 0) C dX8_save_28 (by decide) ?_
    refine q_aload_n C 0 dX8_save_29 rfl rfl ?_
    refine s_getr (a := 117) C lf8_25 ltp_111 kd_111 rfl dX8_save_30 ?_
    refine q_bipush (v := 84) C dX8_save_33 (by decide) ?_
    refine q_iload_n C 1 dX8_save_35 rfl rfl ?_
    refine q_imul C dX8_save_36 ?_
    obtain ⟨S5, hc4, h⟩ := ob1_e h
    refine q_callSv0 C (kX8_copyTown n 114 (tyI_114) 0 117 (tyI_117) (84 * v1) S3 hc4) lm8_161 rfl (rest := []) rfl (Nat.le_of_ble_eq_true rfl) dX8_save_37 ⟨rfl, rfl, Nat.le_of_ble_eq_true rfl, Nat.le_of_ble_eq_true rfl, Nat.le_of_ble_eq_true rfl, Nat.le_of_ble_eq_true rfl⟩ ?_
    refine q_aload_n C 0 dX8_save_40 rfl rfl ?_
    refine s_getr (a := 118) C lf8_28 ltp_111 kd_111 rfl dX8_save_41 ?_
    refine q_iload_n C 1 dX8_save_44 rfl rfl ?_
    refine q_iconst (v := 1) C dX8_save_45 (by decide) ?_
    obtain ⟨hb6, h⟩ := q_if h
    obtain ⟨S7, hS7, h⟩ := obs_e h
    refine s_zast C ltp_118 kd_118 hb6 dX8_save_46 ?_
    rw [← hS7]
    refine q_aload_n C 0 dX8_save_47 rfl rfl ?_
    refine s_getr (a := 114) C lf8_16 ltp_111 kd_111 rfl dX8_save_48 ?_
    refine q_iconst (v := 1) C dX8_save_51 (by decide) ?_
    refine s_iald C ltp_114 kd_114 (by decide) dX8_save_52 ?_
    obtain ⟨rfl, rfl⟩ := Prod.mk.inj (Option.some.inj h)
    exact q_iret C hr (Nat.le_refl 0) (Nat.le_refl 0) dX8_save_53
  · refine q_iconst (v := 0) C dX8_save_22 (by decide) ?_
    obtain ⟨rfl, rfl⟩ := Prod.mk.inj (Option.some.inj h)
    exact q_iret C hr (Nat.le_refl 0) (Nat.le_refl 0) dX8_save_23
def F8_save (n : Nat) (v1 : Int32) (S : qSt) : Option (Int32 × qSt) := if (F8_in v1.toInt64 0 1 S) = 0 then (B8_save_16 n v1 1 S) else (B8_save_16 n v1 0 S)
set_option maxRecDepth 100000 in
set_option maxHeartbeats 4000000 in
theorem kX8_save {l : Launch} {g : qG} (n : Nat) (v1 : Int32) (S : qSt) {r : Int32} {S2 : qSt} (h : F8_save n v1 S = some (r, S2)) : Met l yX8_save [.code yX8_save cX8_save 2 (some .int)] rmX8_save (qPc g NL qT (qmem g S) [.ref (qa g 111), .int v1]) (qQi g NL qT (qmem g S2) r) 0 0 (qA g) := by
  refine q_met (by decide) (Nat.le_of_ble_eq_true rfl) (fun p e s m args below meth c C hr _ => ?_)
  have C : qC g cX8_save RX8 2 p s m meth c := C
  show qR g NL qT 2 p l e rmX8_save s m args below meth c 0 0 (MQ below (qQi g NL qT (qmem g S2) r) args s 0 0 (qA g)) (qmem g S) 0 [(0, .ref (qa g 111)), (1, .int v1)] []
  unfold F8_save at h
  refine q_aload_n C 0 dX8_save_0 rfl rfl ?_
  refine q_iload_n C 1 dX8_save_1 rfl rfl ?_
  refine q_i2l C dX8_save_2 rfl ?_
  refine q_lconst (v := 0) C dX8_save_3 (by decide) ?_
  refine q_lconst (v := 1) C dX8_save_4 (by decide) ?_
  refine q_callSi0 C (kX8_in v1.toInt64 0 1 S) lm8_65 rfl (rest := [.ref (qa g 111)]) rfl (Nat.le_of_ble_eq_true rfl) dX8_save_5 ⟨rfl, rfl, Nat.le_of_ble_eq_true rfl, Nat.le_of_ble_eq_true rfl, Nat.le_of_ble_eq_true rfl, Nat.le_of_ble_eq_true rfl⟩ ?_
  refine q_if_eq (tgt := 15) C h dX8_save_8 (by decide) (fun h => ?_) (fun h => ?_)
  · refine q_iconst (v := 1) C dX8_save_15 (by decide) ?_
    exact W8_save_16 C hr n v1 1 S h
  · refine q_iconst (v := 0) C dX8_save_11 (by decide) ?_
    refine q_goto (tgt := 16) C dX8_save_12 (by decide) ?_
    exact W8_save_16 C hr n v1 0 S h
/-! ClosedStreetsModel.restore -/
abbrev rmX8_restore : Room := { frames := 1, cells := 0, slots := 0, locals := 40 }
def B8_restore_29 (n : Nat) (v1 : Int32) (t1 : Int32) (S : qSt) : Option (Int32 × qSt) := ob2 (F8_refused t1 S) fun r3 S4 => if r3 = 0 then (ob1 (F8_copyTown n 117 (84 * v1) 114 0 S4) fun S6 => ob1 (F8_forget S6) fun S8 => some (S8 114 (1 : Int32).toNatClampNeg, S8)) else (some (0, S4))
set_option maxRecDepth 100000 in
set_option maxHeartbeats 4000000 in
theorem W8_restore_29 {r : Int32} {S2 : qSt} (C : qC g cX8_restore RX8 2 p s m meth c) (hr : meth.sig.returnType = (some .int)) (n : Nat) (v1 : Int32) (t1 : Int32) (S : qSt) (h : B8_restore_29 n v1 t1 S = some (r, S2)) : qR g NL qT 2 p l e rmX8_restore s m args below meth c 0 0 (MQ below (qQi g NL qT (qmem g S2) r) args s 0 0 (qA g)) (qmem g S) 29 [(0, .ref (qa g 111)), (1, .int v1)] [.int t1, .ref (qa g 111)] := by
  unfold B8_restore_29 at h
  obtain ⟨r3, S4, hc2, h⟩ := ob2_e h
  refine q_callVi0 C ltp_111 (qmem_o kd_111 (Nat.le_of_ble_eq_true rfl)) rfl rfl (kX8_refused t1 S hc2) lm8_103 rfl (rest := []) rfl (Nat.le_of_ble_eq_true rfl) dX8_restore_29 ⟨rfl, rfl, Nat.le_of_ble_eq_true rfl, Nat.le_of_ble_eq_true rfl, Nat.le_of_ble_eq_true rfl, Nat.le_of_ble_eq_true rfl⟩ ?_
  refine q_if_eq (tgt := 37) C h dX8_restore_32 (by decide) (fun h => ?_) (fun h => ?_)
  · refine q_aload_n C 0 dX8_restore_37 rfl rfl ?_
    refine s_getr (a := 117) C lf8_25 ltp_111 kd_111 rfl dX8_restore_38 ?_
    refine q_bipush (v := 84) C dX8_restore_41 (by decide) ?_
    refine q_iload_n C 1 dX8_restore_43 rfl rfl ?_
    refine q_imul C dX8_restore_44 ?_
    refine q_aload_n C 0 dX8_restore_45 rfl rfl ?_
    refine s_getr (a := 114) C lf8_16 ltp_111 kd_111 rfl dX8_restore_46 ?_
    refine q_iconst (v := 0) C dX8_restore_49 (by decide) ?_
    obtain ⟨S6, hc5, h⟩ := ob1_e h
    refine q_callSv0 C (kX8_copyTown n 117 (tyI_117) (84 * v1) 114 (tyI_114) 0 S4 hc5) lm8_161 rfl (rest := []) rfl (Nat.le_of_ble_eq_true rfl) dX8_restore_50 ⟨rfl, rfl, Nat.le_of_ble_eq_true rfl, Nat.le_of_ble_eq_true rfl, Nat.le_of_ble_eq_true rfl, Nat.le_of_ble_eq_true rfl⟩ ?_
    refine q_aload_n C 0 dX8_restore_53 rfl rfl ?_
    obtain ⟨S8, hc7, h⟩ := ob1_e h
    refine q_callVv0 C ltp_111 (qmem_o kd_111 (Nat.le_of_ble_eq_true rfl)) rfl rfl (kX8_forget S6 hc7) lm8_165 rfl (rest := []) rfl (Nat.le_of_ble_eq_true rfl) dX8_restore_54 ⟨rfl, rfl, Nat.le_of_ble_eq_true rfl, Nat.le_of_ble_eq_true rfl, Nat.le_of_ble_eq_true rfl, Nat.le_of_ble_eq_true rfl⟩ ?_
    refine q_aload_n C 0 dX8_restore_57 rfl rfl ?_
    refine s_getr (a := 114) C lf8_16 ltp_111 kd_111 rfl dX8_restore_58 ?_
    refine q_iconst (v := 1) C dX8_restore_61 (by decide) ?_
    refine s_iald C ltp_114 kd_114 (by decide) dX8_restore_62 ?_
    obtain ⟨rfl, rfl⟩ := Prod.mk.inj (Option.some.inj h)
    exact q_iret C hr (Nat.le_refl 0) (Nat.le_refl 0) dX8_restore_63
  · refine q_iconst (v := 0) C dX8_restore_35 (by decide) ?_
    obtain ⟨rfl, rfl⟩ := Prod.mk.inj (Option.some.inj h)
    exact q_iret C hr (Nat.le_refl 0) (Nat.le_refl 0) dX8_restore_36
def F8_restore (n : Nat) (v1 : Int32) (S : qSt) : Option (Int32 × qSt) := if ¬ (F8_in v1.toInt64 0 1 S) = 0 then (if qin v1 2 = true then if ¬ (S 118 v1.toNatClampNeg) = 0 then (B8_restore_29 n v1 0 S) else (B8_restore_29 n v1 2 S) else none) else (B8_restore_29 n v1 1 S)
set_option maxRecDepth 100000 in
set_option maxHeartbeats 4000000 in
theorem kX8_restore {l : Launch} {g : qG} (n : Nat) (v1 : Int32) (S : qSt) {r : Int32} {S2 : qSt} (h : F8_restore n v1 S = some (r, S2)) : Met l yX8_restore [.code yX8_restore cX8_restore 2 (some .int)] rmX8_restore (qPc g NL qT (qmem g S) [.ref (qa g 111), .int v1]) (qQi g NL qT (qmem g S2) r) 0 0 (qA g) := by
  refine q_met (by decide) (Nat.le_of_ble_eq_true rfl) (fun p e s m args below meth c C hr _ => ?_)
  have C : qC g cX8_restore RX8 2 p s m meth c := C
  show qR g NL qT 2 p l e rmX8_restore s m args below meth c 0 0 (MQ below (qQi g NL qT (qmem g S2) r) args s 0 0 (qA g)) (qmem g S) 0 [(0, .ref (qa g 111)), (1, .int v1)] []
  unfold F8_restore at h
  refine q_aload_n C 0 dX8_restore_0 rfl rfl ?_
  refine q_iload_n C 1 dX8_restore_1 rfl rfl ?_
  refine q_i2l C dX8_restore_2 rfl ?_
  refine q_lconst (v := 0) C dX8_restore_3 (by decide) ?_
  refine q_lconst (v := 1) C dX8_restore_4 (by decide) ?_
  refine q_callSi0 C (kX8_in v1.toInt64 0 1 S) lm8_65 rfl (rest := [.ref (qa g 111)]) rfl (Nat.le_of_ble_eq_true rfl) dX8_restore_5 ⟨rfl, rfl, Nat.le_of_ble_eq_true rfl, Nat.le_of_ble_eq_true rfl, Nat.le_of_ble_eq_true rfl, Nat.le_of_ble_eq_true rfl⟩ ?_
  refine q_if_ne (tgt := 15) C h dX8_restore_8 (by decide) (fun h => ?_) (fun h => ?_)
  · refine q_aload_n C 0 dX8_restore_15 rfl rfl ?_
    refine s_getr (a := 118) C lf8_28 ltp_111 kd_111 rfl dX8_restore_16 ?_
    refine q_iload_n C 1 dX8_restore_19 rfl rfl ?_
    obtain ⟨hb1, h⟩ := q_if h
    refine s_zald C ltp_118 kd_118 hb1 dX8_restore_20 ?_
    refine q_if_ne (tgt := 28) C h dX8_restore_21 (by decide) (fun h => ?_) (fun h => ?_)
    · refine q_iconst (v := 0) C dX8_restore_28 (by decide) ?_
      exact W8_restore_29 C hr n v1 0 S h
    · refine q_iconst (v := 2) C dX8_restore_24 (by decide) ?_
      refine q_goto (tgt := 29) C dX8_restore_25 (by decide) ?_
      exact W8_restore_29 C hr n v1 2 S h
  · refine q_iconst (v := 1) C dX8_restore_11 (by decide) ?_
    refine q_goto (tgt := 29) C dX8_restore_12 (by decide) ?_
    exact W8_restore_29 C hr n v1 1 S h
end
