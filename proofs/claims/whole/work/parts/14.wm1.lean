section
variable {l : Launch} {g : qG} {p : Program} {e : Env} {s : State} {m : MethodId} {args : Array Value} {below : List Frame} {meth : Method} {c : Code}
/-! ClosedStreetsModel.layCosts -/
abbrev rmX8_layCosts : Room := { frames := 1, cells := 0, slots := 0, locals := 40 }
def B8_layCosts_70 (n : Nat) (a1 : Nat) (K23 : Int32 → Int32 → qSt → Option qSt) (v2 : Int32) (v3 : Int32) (S : qSt) : Option qSt := K23 v2 (v3 + 1) S
set_option maxRecDepth 100000 in
set_option maxHeartbeats 4000000 in
theorem W8_layCosts_70 {S2 : qSt} (C : qC g cX8_layCosts RX8 4 p s m meth c) (hr : meth.sig.returnType = none) (n : Nat) (a1 : Nat) (ha1 : tyI a1) (K23 : Int32 → Int32 → qSt → Option qSt) (hK23 : ∀ (v2 : Int32) (v3 : Int32) (S : qSt), K23 v2 v3 S = some S2 → qR g NL qT 4 p l e rmX8_layCosts s m args below meth c 0 0 (MQ below (qQv g NL qT (qmem g S2)) args s 0 0 (qA g)) (qmem g S) 23 [(0, .ref (qa g 111)), (1, .ref (qa g a1)), (2, .int v2), (3, .int v3)] []) (v2 : Int32) (v3 : Int32) (S : qSt) (h : B8_layCosts_70 n a1 K23 v2 v3 S = some S2) : qR g NL qT 4 p l e rmX8_layCosts s m args below meth c 0 0 (MQ below (qQv g NL qT (qmem g S2)) args s 0 0 (qA g)) (qmem g S) 70 [(0, .ref (qa g 111)), (1, .ref (qa g a1)), (2, .int v2), (3, .int v3)] [] := by
  unfold B8_layCosts_70 at h
  refine q_iinc C 3 (v := v3 + 1) (lv' := [(3, .int (v3 + 1)), (0, .ref (qa g 111)), (1, .ref (qa g a1)), (2, .int v2)]) dX8_layCosts_70 rfl rfl (by decide) rfl ?_
  refine q_norm [1, 2, 3, 0] rfl ?_
  refine q_goto (tgt := 23) C dX8_layCosts_73 (by decide) ?_
  exact hK23 v2 (v3 + 1) S h
def B8_layCosts_23 (n : Nat) (a1 : Nat) : Nat → Int32 → Int32 → qSt → Option qSt
  | 0, _, _, _ => none
  | n9 + 1, v2, v3, S => if qin (1 : Int32) (kd a1).2 = true then if (S a1 (1 : Int32).toNatClampNeg) ≤ v3 then (some S) else (if qin (64 + v3) (kd a1).2 = true then if ¬ (S a1 (64 + v3).toNatClampNeg) = 0 then (B8_layCosts_70 n a1 (B8_layCosts_23 n a1 n9) v2 v3 S) else (if v3 = v2 then (B8_layCosts_70 n a1 (B8_layCosts_23 n a1 n9) v2 v3 S) else (if qin (4 + v3) (kd a1).2 = true then if qin (24 + v3) (kd a1).2 = true then if qin (44 + v3) (kd a1).2 = true then ob1 (F8_price (S a1 (4 + v3).toNatClampNeg) (S a1 (24 + v3).toNatClampNeg) ((100 * (S a1 (44 + v3).toNatClampNeg)) + 1) S) fun S7 => B8_layCosts_70 n a1 (B8_layCosts_23 n a1 n9) v2 v3 S7 else none else none else none)) else none) else none
set_option maxRecDepth 100000 in
set_option maxHeartbeats 4000000 in
theorem W8_layCosts_23 {S2 : qSt} (C : qC g cX8_layCosts RX8 4 p s m meth c) (hr : meth.sig.returnType = none) (n : Nat) (a1 : Nat) (ha1 : tyI a1) : ∀ (n9 : Nat) (v2 : Int32) (v3 : Int32) (S : qSt), B8_layCosts_23 n a1 n9 v2 v3 S = some S2 → qR g NL qT 4 p l e rmX8_layCosts s m args below meth c 0 0 (MQ below (qQv g NL qT (qmem g S2)) args s 0 0 (qA g)) (qmem g S) 23 [(0, .ref (qa g 111)), (1, .ref (qa g a1)), (2, .int v2), (3, .int v3)] [] := by
  intro n9
  induction n9 with
  | zero =>
    intro v2 v3 S h
    have h9 : (none : Option qSt) = some S2 := h
    cases h9
  | succ n9 ih =>
    intro v2 v3 S h
    rw [B8_layCosts_23] at h
    refine q_iload_n C 3 dX8_layCosts_23 rfl rfl ?_
    refine q_aload_n C 1 dX8_layCosts_24 rfl rfl ?_
    refine q_iconst (v := 1) C dX8_layCosts_25 (by decide) ?_
    obtain ⟨hb1, h⟩ := q_if h
    refine s_iald C ha1.1 ha1.2 hb1 dX8_layCosts_26 ?_
    refine q_icmp_ge (tgt := 76) C h dX8_layCosts_27 (by decide) (fun h => ?_) (fun h => ?_)
    · obtain rfl := Option.some.inj h
      exact q_vret C hr (Nat.le_refl 0) (Nat.le_refl 0) dX8_layCosts_76
    · refine q_aload_n C 1 dX8_layCosts_30 rfl rfl ?_
      refine q_bipush (v := 64) C dX8_layCosts_31 (by decide) ?_
      refine q_iload_n C 3 dX8_layCosts_33 rfl rfl ?_
      refine q_iadd C dX8_layCosts_34 ?_
      obtain ⟨hb2, h⟩ := q_if h
      refine s_iald C ha1.1 ha1.2 hb2 dX8_layCosts_35 ?_
      refine q_if_ne (tgt := 70) C h dX8_layCosts_36 (by decide) (fun h => ?_) (fun h => ?_)
      · exact W8_layCosts_70 C hr n a1 ha1 (B8_layCosts_23 n a1 n9) ih v2 v3 S h
      · refine q_iload_n C 3 dX8_layCosts_39 rfl rfl ?_
        refine q_iload_n C 2 dX8_layCosts_40 rfl rfl ?_
        refine q_icmp_eq (tgt := 70) C h dX8_layCosts_41 (by decide) (fun h => ?_) (fun h => ?_)
        · exact W8_layCosts_70 C hr n a1 ha1 (B8_layCosts_23 n a1 n9) ih v2 v3 S h
        · refine q_aload_n C 0 dX8_layCosts_44 rfl rfl ?_
          refine q_aload_n C 1 dX8_layCosts_45 rfl rfl ?_
          refine q_iconst (v := 4) C dX8_layCosts_46 (by decide) ?_
          refine q_iload_n C 3 dX8_layCosts_47 rfl rfl ?_
          refine q_iadd C dX8_layCosts_48 ?_
          obtain ⟨hb3, h⟩ := q_if h
          refine s_iald C ha1.1 ha1.2 hb3 dX8_layCosts_49 ?_
          refine q_aload_n C 1 dX8_layCosts_50 rfl rfl ?_
          refine q_bipush (v := 24) C dX8_layCosts_51 (by decide) ?_
          refine q_iload_n C 3 dX8_layCosts_53 rfl rfl ?_
          refine q_iadd C dX8_layCosts_54 ?_
          obtain ⟨hb4, h⟩ := q_if h
          refine s_iald C ha1.1 ha1.2 hb4 dX8_layCosts_55 ?_
          refine q_bipush (v := 100) C dX8_layCosts_56 (by decide) ?_
          refine q_aload_n C 1 dX8_layCosts_58 rfl rfl ?_
          refine q_bipush (v := 44) C dX8_layCosts_59 (by decide) ?_
          refine q_iload_n C 3 dX8_layCosts_61 rfl rfl ?_
          refine q_iadd C dX8_layCosts_62 ?_
          obtain ⟨hb5, h⟩ := q_if h
          refine s_iald C ha1.1 ha1.2 hb5 dX8_layCosts_63 ?_
          refine q_imul C dX8_layCosts_64 ?_
          refine q_iconst (v := 1) C dX8_layCosts_65 (by decide) ?_
          refine q_iadd C dX8_layCosts_66 ?_
          obtain ⟨S7, hc6, h⟩ := ob1_e h
          refine q_callVv0 C ltp_111 (qmem_o kd_111 (Nat.le_of_ble_eq_true rfl)) rfl rfl (kX8_price (S a1 (4 + v3).toNatClampNeg) (S a1 (24 + v3).toNatClampNeg) ((100 * (S a1 (44 + v3).toNatClampNeg)) + 1) S hc6) lm8_69 rfl (rest := []) rfl (Nat.le_of_ble_eq_true rfl) dX8_layCosts_67 ⟨rfl, rfl, Nat.le_of_ble_eq_true rfl, Nat.le_of_ble_eq_true rfl, Nat.le_of_ble_eq_true rfl, Nat.le_of_ble_eq_true rfl⟩ ?_
          exact W8_layCosts_70 C hr n a1 ha1 (B8_layCosts_23 n a1 n9) ih v2 v3 S7 h
def B8_layCosts_21 (n : Nat) (a1 : Nat) (v2 : Int32) (S : qSt) : Option qSt := B8_layCosts_23 n a1 n v2 0 S
set_option maxRecDepth 100000 in
set_option maxHeartbeats 4000000 in
theorem W8_layCosts_21 {S2 : qSt} (C : qC g cX8_layCosts RX8 4 p s m meth c) (hr : meth.sig.returnType = none) (n : Nat) (a1 : Nat) (ha1 : tyI a1) (v2 : Int32) (S : qSt) (h : B8_layCosts_21 n a1 v2 S = some S2) : qR g NL qT 4 p l e rmX8_layCosts s m args below meth c 0 0 (MQ below (qQv g NL qT (qmem g S2)) args s 0 0 (qA g)) (qmem g S) 21 [(0, .ref (qa g 111)), (1, .ref (qa g a1)), (2, .int v2)] [] := by
  unfold B8_layCosts_21 at h
  refine q_iconst (v := 0) C dX8_layCosts_21 (by decide) ?_
  refine q_istore_n C (lv' := [(3, .int 0), (0, .ref (qa g 111)), (1, .ref (qa g a1)), (2, .int v2)]) dX8_layCosts_22 rfl (by decide) rfl ?_
  refine q_norm [1, 2, 3, 0] rfl ?_
  exact W8_layCosts_23 C hr n a1 ha1 n v2 0 S h
def B8_layCosts_2 (n : Nat) (a1 : Nat) : Nat → Int32 → Int32 → qSt → Option qSt
  | 0, _, _, _ => none
  | n9 + 1, v2, v3, S => if 81 ≤ v3 then (B8_layCosts_21 n a1 v2 S) else (if qin v3 81 = true then obs (qup S 120 v3.toNatClampNeg (0 : Int32)) fun S9 => (B8_layCosts_2 n a1 n9) v2 (v3 + 1) S9 else none)
set_option maxRecDepth 100000 in
set_option maxHeartbeats 4000000 in
theorem W8_layCosts_2 {S2 : qSt} (C : qC g cX8_layCosts RX8 4 p s m meth c) (hr : meth.sig.returnType = none) (n : Nat) (a1 : Nat) (ha1 : tyI a1) : ∀ (n9 : Nat) (v2 : Int32) (v3 : Int32) (S : qSt), B8_layCosts_2 n a1 n9 v2 v3 S = some S2 → qR g NL qT 4 p l e rmX8_layCosts s m args below meth c 0 0 (MQ below (qQv g NL qT (qmem g S2)) args s 0 0 (qA g)) (qmem g S) 2 [(0, .ref (qa g 111)), (1, .ref (qa g a1)), (2, .int v2), (3, .int v3)] [] := by
  intro n9
  induction n9 with
  | zero =>
    intro v2 v3 S h
    have h9 : (none : Option qSt) = some S2 := h
    cases h9
  | succ n9 ih =>
    intro v2 v3 S h
    rw [B8_layCosts_2] at h
    refine q_iload_n C 3 dX8_layCosts_2 rfl rfl ?_
    refine q_bipush (v := 81) C dX8_layCosts_3 (by decide) ?_
    refine q_icmp_ge (tgt := 21) C h dX8_layCosts_5 (by decide) (fun h => ?_) (fun h => ?_)
    · refine q_norm [0, 1, 2] rfl ?_
      exact W8_layCosts_21 C hr n a1 ha1 v2 S h
    · refine q_aload_n C 0 dX8_layCosts_8 rfl rfl ?_
      refine s_getr (a := 120) C lf8_35 ltp_111 kd_111 rfl dX8_layCosts_9 ?_
      refine q_iload_n C 3 dX8_layCosts_12 rfl rfl ?_
      refine q_iconst (v := 0) C dX8_layCosts_13 (by decide) ?_
      obtain ⟨hb8, h⟩ := q_if h
      obtain ⟨S9, hS9, h⟩ := obs_e h
      refine s_iast C ltp_120 kd_120 hb8 dX8_layCosts_14 ?_
      rw [← hS9]
      refine q_iinc C 3 (v := v3 + 1) (lv' := [(3, .int (v3 + 1)), (0, .ref (qa g 111)), (1, .ref (qa g a1)), (2, .int v2)]) dX8_layCosts_15 rfl rfl (by decide) rfl ?_
      refine q_norm [1, 2, 3, 0] rfl ?_
      refine q_goto (tgt := 2) C dX8_layCosts_18 (by decide) ?_
      exact ih v2 (v3 + 1) S9 h
def F8_layCosts (n : Nat) (a1 : Nat) (v2 : Int32) (S : qSt) : Option qSt := B8_layCosts_2 n a1 n v2 0 S
set_option maxRecDepth 100000 in
set_option maxHeartbeats 4000000 in
theorem kX8_layCosts {l : Launch} {g : qG} (n : Nat) (a1 : Nat) (ha1 : tyI a1) (v2 : Int32) (S : qSt) {S2 : qSt} (h : F8_layCosts n a1 v2 S = some S2) : Met l yX8_layCosts [.code yX8_layCosts cX8_layCosts 4 none] rmX8_layCosts (qPc g NL qT (qmem g S) [.ref (qa g 111), .ref (qa g a1), .int v2]) (qQv g NL qT (qmem g S2)) 0 0 (qA g) := by
  refine q_met (by decide) (Nat.le_of_ble_eq_true rfl) (fun p e s m args below meth c C hr _ => ?_)
  have C : qC g cX8_layCosts RX8 4 p s m meth c := C
  show qR g NL qT 4 p l e rmX8_layCosts s m args below meth c 0 0 (MQ below (qQv g NL qT (qmem g S2)) args s 0 0 (qA g)) (qmem g S) 0 [(0, .ref (qa g 111)), (1, .ref (qa g a1)), (2, .int v2)] []
  unfold F8_layCosts at h
  refine q_iconst (v := 0) C dX8_layCosts_0 (by decide) ?_
  refine q_istore_n C (lv' := [(3, .int 0), (0, .ref (qa g 111)), (1, .ref (qa g a1)), (2, .int v2)]) dX8_layCosts_1 rfl (by decide) rfl ?_
  refine q_norm [1, 2, 3, 0] rfl ?_
  exact W8_layCosts_2 C hr n a1 ha1 n v2 0 S h
/-! ClosedStreetsModel.layFar -/
abbrev rmX8_layFar : Room := { frames := 0, cells := 0, slots := 0, locals := 0 }
def B8_layFar_117 (n : Nat) (a1 : Nat) (K31 : Int32 → qSt → Option qSt) (v3 : Int32) (S : qSt) : Option qSt := K31 v3 S
set_option maxRecDepth 100000 in
set_option maxHeartbeats 4000000 in
theorem W8_layFar_117 {S2 : qSt} (C : qC g cX8_layFar RX8 6 p s m meth c) (hr : meth.sig.returnType = none) (n : Nat) (a1 : Nat) (ha1 : tyI a1) (K31 : Int32 → qSt → Option qSt) (hK31 : ∀ (v3 : Int32) (S : qSt), K31 v3 S = some S2 → qR g NL qT 6 p l e rmX8_layFar s m args below meth c 0 0 (MQ below (qQv g NL qT (qmem g S2)) args s 0 0 (qA g)) (qmem g S) 31 [(0, .ref (qa g 111)), (3, .int v3)] []) (v3 : Int32) (S : qSt) (h : B8_layFar_117 n a1 K31 v3 S = some S2) : qR g NL qT 6 p l e rmX8_layFar s m args below meth c 0 0 (MQ below (qQv g NL qT (qmem g S2)) args s 0 0 (qA g)) (qmem g S) 117 [(0, .ref (qa g 111)), (3, .int v3)] [] := by
  unfold B8_layFar_117 at h
  refine q_goto (tgt := 31) C dX8_layFar_117 (by decide) ?_
  exact hK31 v3 S h
def B8_layFar_111 (n : Nat) (a1 : Nat) (K31 : Int32 → qSt → Option qSt) (K40 : Int32 → Int32 → qSt → Option qSt) (v3 : Int32) (v4 : Int32) (S : qSt) : Option qSt := K40 v3 (v4 + 1) S
set_option maxRecDepth 100000 in
set_option maxHeartbeats 4000000 in
theorem W8_layFar_111 {S2 : qSt} (C : qC g cX8_layFar RX8 6 p s m meth c) (hr : meth.sig.returnType = none) (n : Nat) (a1 : Nat) (ha1 : tyI a1) (K31 : Int32 → qSt → Option qSt) (hK31 : ∀ (v3 : Int32) (S : qSt), K31 v3 S = some S2 → qR g NL qT 6 p l e rmX8_layFar s m args below meth c 0 0 (MQ below (qQv g NL qT (qmem g S2)) args s 0 0 (qA g)) (qmem g S) 31 [(0, .ref (qa g 111)), (3, .int v3)] []) (K40 : Int32 → Int32 → qSt → Option qSt) (hK40 : ∀ (v3 : Int32) (v4 : Int32) (S : qSt), K40 v3 v4 S = some S2 → qR g NL qT 6 p l e rmX8_layFar s m args below meth c 0 0 (MQ below (qQv g NL qT (qmem g S2)) args s 0 0 (qA g)) (qmem g S) 40 [(0, .ref (qa g 111)), (3, .int v3), (4, .int v4)] []) (v3 : Int32) (v4 : Int32) (S : qSt) (h : B8_layFar_111 n a1 K31 K40 v3 v4 S = some S2) : qR g NL qT 6 p l e rmX8_layFar s m args below meth c 0 0 (MQ below (qQv g NL qT (qmem g S2)) args s 0 0 (qA g)) (qmem g S) 111 [(0, .ref (qa g 111)), (3, .int v3), (4, .int v4)] [] := by
  unfold B8_layFar_111 at h
  refine q_iinc C 2 (v := v4 + 1) (lv' := [(4, .int (v4 + 1)), (0, .ref (qa g 111)), (3, .int v3)]) dX8_layFar_111 rfl rfl (by decide) rfl ?_
  refine q_norm [1, 2, 0] rfl ?_
  refine q_goto (tgt := 40) C dX8_layFar_114 (by decide) ?_
  exact hK40 v3 (v4 + 1) S h
def B8_layFar_80 (n : Nat) (a1 : Nat) (K31 : Int32 → qSt → Option qSt) (K40 : Int32 → Int32 → qSt → Option qSt) (v3 : Int32) (v4 : Int32) (t0 : Int32) (S : qSt) : Option qSt := if qin (v4 / 9) 9 = true then if (S 121 (v4 / 9).toNatClampNeg) ≤ t0 then (B8_layFar_111 n a1 K31 K40 v3 v4 S) else (obs (qup S 121 (v4 / 9).toNatClampNeg t0) fun S6 => B8_layFar_111 n a1 K31 K40 1 v4 S6) else none
set_option maxRecDepth 100000 in
set_option maxHeartbeats 4000000 in
theorem W8_layFar_80 {S2 : qSt} (C : qC g cX8_layFar RX8 6 p s m meth c) (hr : meth.sig.returnType = none) (n : Nat) (a1 : Nat) (ha1 : tyI a1) (K31 : Int32 → qSt → Option qSt) (hK31 : ∀ (v3 : Int32) (S : qSt), K31 v3 S = some S2 → qR g NL qT 6 p l e rmX8_layFar s m args below meth c 0 0 (MQ below (qQv g NL qT (qmem g S2)) args s 0 0 (qA g)) (qmem g S) 31 [(0, .ref (qa g 111)), (3, .int v3)] []) (K40 : Int32 → Int32 → qSt → Option qSt) (hK40 : ∀ (v3 : Int32) (v4 : Int32) (S : qSt), K40 v3 v4 S = some S2 → qR g NL qT 6 p l e rmX8_layFar s m args below meth c 0 0 (MQ below (qQv g NL qT (qmem g S2)) args s 0 0 (qA g)) (qmem g S) 40 [(0, .ref (qa g 111)), (3, .int v3), (4, .int v4)] []) (v3 : Int32) (v4 : Int32) (t0 : Int32) (S : qSt) (h : B8_layFar_80 n a1 K31 K40 v3 v4 t0 S = some S2) : qR g NL qT 6 p l e rmX8_layFar s m args below meth c 0 0 (MQ below (qQv g NL qT (qmem g S2)) args s 0 0 (qA g)) (qmem g S) 80 [(0, .ref (qa g 111)), (3, .int v3), (4, .int v4)] [.int t0] := by
  unfold B8_layFar_80 at h
  refine q_istore C (lv' := [(5, .int t0), (0, .ref (qa g 111)), (3, .int v3), (4, .int v4)]) dX8_layFar_80 (by decide) rfl ?_
  refine q_norm [1, 2, 3, 0] rfl ?_
  refine q_iload C 3 dX8_layFar_82 rfl ?_
  refine q_aload_n C 0 dX8_layFar_84 rfl rfl ?_
  refine s_getr (a := 121) C lf8_38 ltp_111 kd_111 rfl dX8_layFar_85 ?_
  refine q_iload C 2 dX8_layFar_88 rfl ?_
  refine q_bipush (v := 9) C dX8_layFar_90 (by decide) ?_
  refine q_idiv C dX8_layFar_92 (by decide) ?_
  obtain ⟨hb5, h⟩ := q_if h
  refine s_iald C ltp_121 kd_121 hb5 dX8_layFar_93 ?_
  refine q_icmp_ge (tgt := 111) C h dX8_layFar_94 (by decide) (fun h => ?_) (fun h => ?_)
  · refine q_norm [0, 1, 2] rfl ?_
    exact W8_layFar_111 C hr n a1 ha1 K31 hK31 K40 hK40 v3 v4 S h
  · refine q_aload_n C 0 dX8_layFar_97 rfl rfl ?_
    refine s_getr (a := 121) C lf8_38 ltp_111 kd_111 rfl dX8_layFar_98 ?_
    refine q_iload C 2 dX8_layFar_101 rfl ?_
    refine q_bipush (v := 9) C dX8_layFar_103 (by decide) ?_
    refine q_idiv C dX8_layFar_105 (by decide) ?_
    refine q_iload C 3 dX8_layFar_106 rfl ?_
    obtain ⟨S6, hS6, h⟩ := obs_e h
    refine s_iast C ltp_121 kd_121 hb5 dX8_layFar_108 ?_
    rw [← hS6]
    refine q_iconst (v := 1) C dX8_layFar_109 (by decide) ?_
    refine q_istore_n C (lv' := [(3, .int 1), (0, .ref (qa g 111)), (4, .int v4), (5, .int t0)]) dX8_layFar_110 rfl (by decide) rfl ?_
    refine q_norm [1, 0, 2, 3] rfl ?_
    refine q_norm [0, 1, 2] rfl ?_
    exact W8_layFar_111 C hr n a1 ha1 K31 hK31 K40 hK40 1 v4 S6 h
def B8_layFar_40 (n : Nat) (a1 : Nat) (K31 : Int32 → qSt → Option qSt) : Nat → Int32 → Int32 → qSt → Option qSt
  | 0, _, _, _ => none
  | n9 + 1, v3, v4, S => if 81 ≤ v4 then (B8_layFar_117 n a1 K31 v3 S) else (if qin v4 81 = true then if ¬ (S 120 v4.toNatClampNeg) = 0 then (if qin (v4 - v4 / 9 * 9) 9 = true then B8_layFar_80 n a1 K31 (B8_layFar_40 n a1 K31 n9) v3 v4 ((S 120 v4.toNatClampNeg) + (S 121 (v4 - v4 / 9 * 9).toNatClampNeg)) S else none) else (B8_layFar_80 n a1 K31 (B8_layFar_40 n a1 K31 n9) v3 v4 1000000 S) else none)
set_option maxRecDepth 100000 in
set_option maxHeartbeats 4000000 in
theorem W8_layFar_40 {S2 : qSt} (C : qC g cX8_layFar RX8 6 p s m meth c) (hr : meth.sig.returnType = none) (n : Nat) (a1 : Nat) (ha1 : tyI a1) (K31 : Int32 → qSt → Option qSt) (hK31 : ∀ (v3 : Int32) (S : qSt), K31 v3 S = some S2 → qR g NL qT 6 p l e rmX8_layFar s m args below meth c 0 0 (MQ below (qQv g NL qT (qmem g S2)) args s 0 0 (qA g)) (qmem g S) 31 [(0, .ref (qa g 111)), (3, .int v3)] []) : ∀ (n9 : Nat) (v3 : Int32) (v4 : Int32) (S : qSt), B8_layFar_40 n a1 K31 n9 v3 v4 S = some S2 → qR g NL qT 6 p l e rmX8_layFar s m args below meth c 0 0 (MQ below (qQv g NL qT (qmem g S2)) args s 0 0 (qA g)) (qmem g S) 40 [(0, .ref (qa g 111)), (3, .int v3), (4, .int v4)] [] := by
  intro n9
  induction n9 with
  | zero =>
    intro v3 v4 S h
    have h9 : (none : Option qSt) = some S2 := h
    cases h9
  | succ n9 ih =>
    intro v3 v4 S h
    rw [B8_layFar_40] at h
    refine q_iload C 2 dX8_layFar_40 rfl ?_
    refine q_bipush (v := 81) C dX8_layFar_42 (by decide) ?_
    refine q_icmp_ge (tgt := 117) C h dX8_layFar_44 (by decide) (fun h => ?_) (fun h => ?_)
    · refine q_norm [0, 1] rfl ?_
      exact W8_layFar_117 C hr n a1 ha1 K31 hK31 v3 S h
    · refine q_aload_n C 0 dX8_layFar_47 rfl rfl ?_
      refine s_getr (a := 120) C lf8_35 ltp_111 kd_111 rfl dX8_layFar_48 ?_
      refine q_iload C 2 dX8_layFar_51 rfl ?_
      obtain ⟨hb3, h⟩ := q_if h
      refine s_iald C ltp_120 kd_120 hb3 dX8_layFar_53 ?_
      refine q_if_ne (tgt := 62) C h dX8_layFar_54 (by decide) (fun h => ?_) (fun h => ?_)
      · refine q_aload_n C 0 dX8_layFar_62 rfl rfl ?_
        refine s_getr (a := 120) C lf8_35 ltp_111 kd_111 rfl dX8_layFar_63 ?_
        refine q_iload C 2 dX8_layFar_66 rfl ?_
        refine s_iald C ltp_120 kd_120 hb3 dX8_layFar_68 ?_
        refine q_aload_n C 0 dX8_layFar_69 rfl rfl ?_
        refine s_getr (a := 121) C lf8_38 ltp_111 kd_111 rfl dX8_layFar_70 ?_
        refine q_iload C 2 dX8_layFar_73 rfl ?_
        refine q_bipush (v := 9) C dX8_layFar_75 (by decide) ?_
        refine q_irem C dX8_layFar_77 (by decide) ?_
        obtain ⟨hb4, h⟩ := q_if h
        refine s_iald C ltp_121 kd_121 hb4 dX8_layFar_78 ?_
        refine q_iadd C dX8_layFar_79 ?_
        exact W8_layFar_80 C hr n a1 ha1 K31 hK31 (B8_layFar_40 n a1 K31 n9) ih v3 v4 ((S 120 v4.toNatClampNeg) + (S 121 (v4 - v4 / 9 * 9).toNatClampNeg)) S h
      · refine q_ldc (v := 1000000) C lc8_73 dX8_layFar_57 ?_
        refine q_goto (tgt := 80) C dX8_layFar_59 (by decide) ?_
        exact W8_layFar_80 C hr n a1 ha1 K31 hK31 (B8_layFar_40 n a1 K31 n9) ih v3 v4 1000000 S h
def B8_layFar_31 (n : Nat) (a1 : Nat) : Nat → Int32 → qSt → Option qSt
  | 0, _, _ => none
  | n9 + 1, v3, S => if v3 = 0 then (some S) else (B8_layFar_40 n a1 (B8_layFar_31 n a1 n9) n 0 0 S)
set_option maxRecDepth 100000 in
set_option maxHeartbeats 4000000 in
theorem W8_layFar_31 {S2 : qSt} (C : qC g cX8_layFar RX8 6 p s m meth c) (hr : meth.sig.returnType = none) (n : Nat) (a1 : Nat) (ha1 : tyI a1) : ∀ (n9 : Nat) (v3 : Int32) (S : qSt), B8_layFar_31 n a1 n9 v3 S = some S2 → qR g NL qT 6 p l e rmX8_layFar s m args below meth c 0 0 (MQ below (qQv g NL qT (qmem g S2)) args s 0 0 (qA g)) (qmem g S) 31 [(0, .ref (qa g 111)), (3, .int v3)] [] := by
  intro n9
  induction n9 with
  | zero =>
    intro v3 S h
    have h9 : (none : Option qSt) = some S2 := h
    cases h9
  | succ n9 ih =>
    intro v3 S h
    rw [B8_layFar_31] at h
    refine q_iload_n C 1 dX8_layFar_31 rfl rfl ?_
    refine q_if_eq (tgt := 120) C h dX8_layFar_32 (by decide) (fun h => ?_) (fun h => ?_)
    · obtain rfl := Option.some.inj h
      exact q_vret C hr (Nat.le_refl 0) (Nat.le_refl 0) dX8_layFar_120
    · refine q_iconst (v := 0) C dX8_layFar_35 (by decide) ?_
      refine q_istore_n C (lv' := [(3, .int 0), (0, .ref (qa g 111))]) dX8_layFar_36 rfl (by decide) rfl ?_
      refine q_norm [1, 0] rfl ?_
      refine q_iconst (v := 0) C dX8_layFar_37 (by decide) ?_
      refine q_istore C (lv' := [(4, .int 0), (0, .ref (qa g 111)), (3, .int 0)]) dX8_layFar_38 (by decide) rfl ?_
      refine q_norm [1, 2, 0] rfl ?_
      exact W8_layFar_40 C hr n a1 ha1 (B8_layFar_31 n a1 n9) ih n 0 0 S h
def B8_layFar_22 (n : Nat) (a1 : Nat) (v2 : Int32) (S : qSt) : Option qSt := if qin v2 9 = true then obs (qup S 121 v2.toNatClampNeg (0 : Int32)) fun S2 => B8_layFar_31 n a1 n 1 S2 else none
set_option maxRecDepth 100000 in
set_option maxHeartbeats 4000000 in
theorem W8_layFar_22 {S2 : qSt} (C : qC g cX8_layFar RX8 6 p s m meth c) (hr : meth.sig.returnType = none) (n : Nat) (a1 : Nat) (ha1 : tyI a1) (v2 : Int32) (S : qSt) (h : B8_layFar_22 n a1 v2 S = some S2) : qR g NL qT 6 p l e rmX8_layFar s m args below meth c 0 0 (MQ below (qQv g NL qT (qmem g S2)) args s 0 0 (qA g)) (qmem g S) 22 [(0, .ref (qa g 111)), (2, .int v2)] [] := by
  unfold B8_layFar_22 at h
  refine q_aload_n C 0 dX8_layFar_22 rfl rfl ?_
  refine s_getr (a := 121) C lf8_38 ltp_111 kd_111 rfl dX8_layFar_23 ?_
  refine q_iload_n C 1 dX8_layFar_26 rfl rfl ?_
  refine q_iconst (v := 0) C dX8_layFar_27 (by decide) ?_
  obtain ⟨hb1, h⟩ := q_if h
  obtain ⟨S2, hS2, h⟩ := obs_e h
  refine s_iast C ltp_121 kd_121 hb1 dX8_layFar_28 ?_
  rw [← hS2]
  refine q_iconst (v := 1) C dX8_layFar_29 (by decide) ?_
  refine q_istore_n C (lv' := [(3, .int 1), (0, .ref (qa g 111)), (2, .int v2)]) dX8_layFar_30 rfl (by decide) rfl ?_
  refine q_norm [1, 2, 0] rfl ?_
  refine q_norm [0, 2] rfl ?_
  exact W8_layFar_31 C hr n a1 ha1 n 1 S2 h
def B8_layFar_2 (n : Nat) (a1 : Nat) : Nat → Int32 → Int32 → qSt → Option qSt
  | 0, _, _, _ => none
  | n9 + 1, v2, v3, S => if 9 ≤ v3 then (B8_layFar_22 n a1 v2 S) else (if qin v3 9 = true then obs (qup S 121 v3.toNatClampNeg (1000000 : Int32)) fun S8 => (B8_layFar_2 n a1 n9) v2 (v3 + 1) S8 else none)
set_option maxRecDepth 100000 in
set_option maxHeartbeats 4000000 in
theorem W8_layFar_2 {S2 : qSt} (C : qC g cX8_layFar RX8 6 p s m meth c) (hr : meth.sig.returnType = none) (n : Nat) (a1 : Nat) (ha1 : tyI a1) : ∀ (n9 : Nat) (v2 : Int32) (v3 : Int32) (S : qSt), B8_layFar_2 n a1 n9 v2 v3 S = some S2 → qR g NL qT 6 p l e rmX8_layFar s m args below meth c 0 0 (MQ below (qQv g NL qT (qmem g S2)) args s 0 0 (qA g)) (qmem g S) 2 [(0, .ref (qa g 111)), (2, .int v2), (3, .int v3)] [] := by
  intro n9
  induction n9 with
  | zero =>
    intro v2 v3 S h
    have h9 : (none : Option qSt) = some S2 := h
    cases h9
  | succ n9 ih =>
    intro v2 v3 S h
    rw [B8_layFar_2] at h
    refine q_iload_n C 2 dX8_layFar_2 rfl rfl ?_
    refine q_bipush (v := 9) C dX8_layFar_3 (by decide) ?_
    refine q_icmp_ge (tgt := 22) C h dX8_layFar_5 (by decide) (fun h => ?_) (fun h => ?_)
    · refine q_norm [0, 1] rfl ?_
      exact W8_layFar_22 C hr n a1 ha1 v2 S h
    · refine q_aload_n C 0 dX8_layFar_8 rfl rfl ?_
      refine s_getr (a := 121) C lf8_38 ltp_111 kd_111 rfl dX8_layFar_9 ?_
      refine q_iload_n C 2 dX8_layFar_12 rfl rfl ?_
      refine q_ldc (v := 1000000) C lc8_73 dX8_layFar_13 ?_
      obtain ⟨hb7, h⟩ := q_if h
      obtain ⟨S8, hS8, h⟩ := obs_e h
      refine s_iast C ltp_121 kd_121 hb7 dX8_layFar_15 ?_
      rw [← hS8]
      refine q_iinc C 2 (v := v3 + 1) (lv' := [(3, .int (v3 + 1)), (0, .ref (qa g 111)), (2, .int v2)]) dX8_layFar_16 rfl rfl (by decide) rfl ?_
      refine q_norm [1, 2, 0] rfl ?_
      refine q_goto (tgt := 2) C dX8_layFar_19 (by decide) ?_
      exact ih v2 (v3 + 1) S8 h
def F8_layFar (n : Nat) (a1 : Nat) (v2 : Int32) (S : qSt) : Option qSt := B8_layFar_2 n a1 n v2 0 S
set_option maxRecDepth 100000 in
set_option maxHeartbeats 4000000 in
theorem kX8_layFar {l : Launch} {g : qG} (n : Nat) (a1 : Nat) (ha1 : tyI a1) (v2 : Int32) (S : qSt) {S2 : qSt} (h : F8_layFar n a1 v2 S = some S2) : Met l yX8_layFar [.code yX8_layFar cX8_layFar 6 none] rmX8_layFar (qPc g NL qT (qmem g S) [.ref (qa g 111), .ref (qa g a1), .int v2]) (qQv g NL qT (qmem g S2)) 0 0 (qA g) := by
  refine q_met (by decide) (Nat.le_of_ble_eq_true rfl) (fun p e s m args below meth c C hr _ => ?_)
  have C : qC g cX8_layFar RX8 6 p s m meth c := C
  show qR g NL qT 6 p l e rmX8_layFar s m args below meth c 0 0 (MQ below (qQv g NL qT (qmem g S2)) args s 0 0 (qA g)) (qmem g S) 0 [(0, .ref (qa g 111)), (1, .ref (qa g a1)), (2, .int v2)] []
  unfold F8_layFar at h
  refine q_iconst (v := 0) C dX8_layFar_0 (by decide) ?_
  refine q_istore_n C (lv' := [(3, .int 0), (0, .ref (qa g 111)), (1, .ref (qa g a1)), (2, .int v2)]) dX8_layFar_1 rfl (by decide) rfl ?_
  refine q_norm [1, 2, 3, 0] rfl ?_
  refine q_norm [0, 2, 3] rfl ?_
  exact W8_layFar_2 C hr n a1 ha1 n v2 0 S h
/-! ClosedStreetsModel.lengthOf -/
abbrev rmX8_lengthOf : Room := { frames := 0, cells := 0, slots := 0, locals := 0 }
def F8_lengthOf (v0 : Int32) (S : qSt) : Int32 := if v0 < 1000000 then (v0 / 100) else ((-999))
set_option maxRecDepth 100000 in
set_option maxHeartbeats 4000000 in
theorem kX8_lengthOf {l : Launch} {g : qG} (v0 : Int32) (S : qSt) : Met l yX8_lengthOf [.code yX8_lengthOf cX8_lengthOf 1 (some .int)] rmX8_lengthOf (qPc g NL qT (qmem g S) [.int v0]) (qQi g NL qT (qmem g S) (F8_lengthOf v0 S)) 0 0 (qA g) := by
  obtain ⟨r, h⟩ : ∃ r, F8_lengthOf v0 S = r := ⟨_, rfl⟩
  rw [h]
  refine q_met (by decide) (Nat.le_of_ble_eq_true rfl) (fun p e s m args below meth c C hr _ => ?_)
  have C : qC g cX8_lengthOf RX8 1 p s m meth c := C
  show qR g NL qT 1 p l e rmX8_lengthOf s m args below meth c 0 0 (MQ below (qQi g NL qT (qmem g S) r) args s 0 0 (qA g)) (qmem g S) 0 [(0, .int v0)] []
  unfold F8_lengthOf at h
  refine q_iload_n C 0 dX8_lengthOf_0 rfl rfl ?_
  refine q_ldc (v := 1000000) C lc8_73 dX8_lengthOf_1 ?_
  refine q_icmp_lt (tgt := 12) C h dX8_lengthOf_3 (by decide) (fun h => ?_) (fun h => ?_)
  · refine q_iload_n C 0 dX8_lengthOf_12 rfl rfl ?_
    refine q_bipush (v := 100) C dX8_lengthOf_13 (by decide) ?_
    refine q_idiv C dX8_lengthOf_15 (by decide) ?_
    subst h
    exact q_iret C hr (Nat.le_refl 0) (Nat.le_refl 0) dX8_lengthOf_16
  · refine q_sipush (v := (-999)) C dX8_lengthOf_6 (by decide) ?_
    refine q_goto (tgt := 16) C dX8_lengthOf_9 (by decide) ?_
    subst h
    exact q_iret C hr (Nat.le_refl 0) (Nat.le_refl 0) dX8_lengthOf_16
/-! ClosedStreetsModel.best -/
abbrev rmX8_best : Room := { frames := 1, cells := 0, slots := 0, locals := 40 }
def F8_best (n : Nat) (a1 : Nat) (S : qSt) : Option (Int32 × qSt) := if qin (3 : Int32) (kd a1).2 = true then ob1 (F8_layFar n a1 (S a1 (3 : Int32).toNatClampNeg) S) fun S3 => if qin (2 : Int32) (kd a1).2 = true then if qin (S3 a1 (2 : Int32).toNatClampNeg) 9 = true then some (F8_lengthOf (S3 121 (S3 a1 (2 : Int32).toNatClampNeg).toNatClampNeg) S3, S3) else none else none else none
set_option maxRecDepth 100000 in
set_option maxHeartbeats 4000000 in
theorem kX8_best {l : Launch} {g : qG} (n : Nat) (a1 : Nat) (ha1 : tyI a1) (S : qSt) {r : Int32} {S2 : qSt} (h : F8_best n a1 S = some (r, S2)) : Met l yX8_best [.code yX8_best cX8_best 2 (some .int)] rmX8_best (qPc g NL qT (qmem g S) [.ref (qa g 111), .ref (qa g a1)]) (qQi g NL qT (qmem g S2) r) 0 0 (qA g) := by
  refine q_met (by decide) (Nat.le_of_ble_eq_true rfl) (fun p e s m args below meth c C hr _ => ?_)
  have C : qC g cX8_best RX8 2 p s m meth c := C
  show qR g NL qT 2 p l e rmX8_best s m args below meth c 0 0 (MQ below (qQi g NL qT (qmem g S2) r) args s 0 0 (qA g)) (qmem g S) 0 [(0, .ref (qa g 111)), (1, .ref (qa g a1))] []
  unfold F8_best at h
  refine q_aload_n C 0 dX8_best_0 rfl rfl ?_
  refine q_aload_n C 1 dX8_best_1 rfl rfl ?_
  refine q_aload_n C 1 dX8_best_2 rfl rfl ?_
  refine q_iconst (v := 3) C dX8_best_3 (by decide) ?_
  obtain ⟨hb1, h⟩ := q_if h
  refine s_iald C ha1.1 ha1.2 hb1 dX8_best_4 ?_
  obtain ⟨S3, hc2, h⟩ := ob1_e h
  refine q_callVv0 C ltp_111 (qmem_o kd_111 (Nat.le_of_ble_eq_true rfl)) rfl rfl (kX8_layFar n a1 (ha1) (S a1 (3 : Int32).toNatClampNeg) S hc2) lm8_74 rfl (rest := []) rfl (Nat.le_of_ble_eq_true rfl) dX8_best_5 ⟨rfl, rfl, Nat.le_of_ble_eq_true rfl, Nat.le_of_ble_eq_true rfl, Nat.le_of_ble_eq_true rfl, Nat.le_of_ble_eq_true rfl⟩ ?_
  refine q_aload_n C 0 dX8_best_8 rfl rfl ?_
  refine s_getr (a := 121) C lf8_38 ltp_111 kd_111 rfl dX8_best_9 ?_
  refine q_aload_n C 1 dX8_best_12 rfl rfl ?_
  refine q_iconst (v := 2) C dX8_best_13 (by decide) ?_
  obtain ⟨hb4, h⟩ := q_if h
  refine s_iald C ha1.1 ha1.2 hb4 dX8_best_14 ?_
  obtain ⟨hb5, h⟩ := q_if h
  refine s_iald C ltp_121 kd_121 hb5 dX8_best_15 ?_
  refine q_callSi0 C (kX8_lengthOf (S3 121 (S3 a1 (2 : Int32).toNatClampNeg).toNatClampNeg) S3) lm8_77 rfl (rest := []) rfl (Nat.le_of_ble_eq_true rfl) dX8_best_16 ⟨rfl, rfl, Nat.le_of_ble_eq_true rfl, Nat.le_of_ble_eq_true rfl, Nat.le_of_ble_eq_true rfl, Nat.le_of_ble_eq_true rfl⟩ ?_
  obtain ⟨rfl, rfl⟩ := Prod.mk.inj (Option.some.inj h)
  exact q_iret C hr (Nat.le_refl 0) (Nat.le_refl 0) dX8_best_19
/-! ClosedStreetsModel.bestBut -/
abbrev rmX8_bestBut : Room := { frames := 2, cells := 0, slots := 0, locals := 80 }
def F8_bestBut (n : Nat) (a1 : Nat) (v2 : Int32) (S : qSt) : Option (Int32 × qSt) := ob1 (F8_layCosts n a1 v2 S) fun S2 => ob2 (F8_best n a1 S2) fun r4 S5 => some (r4, S5)
set_option maxRecDepth 100000 in
set_option maxHeartbeats 4000000 in
theorem kX8_bestBut {l : Launch} {g : qG} (n : Nat) (a1 : Nat) (ha1 : tyI a1) (v2 : Int32) (S : qSt) {r : Int32} {S2 : qSt} (h : F8_bestBut n a1 v2 S = some (r, S2)) : Met l yX8_bestBut [.code yX8_bestBut cX8_bestBut 3 (some .int)] rmX8_bestBut (qPc g NL qT (qmem g S) [.ref (qa g 111), .ref (qa g a1), .int v2]) (qQi g NL qT (qmem g S2) r) 0 0 (qA g) := by
  refine q_met (by decide) (Nat.le_of_ble_eq_true rfl) (fun p e s m args below meth c C hr _ => ?_)
  have C : qC g cX8_bestBut RX8 3 p s m meth c := C
  show qR g NL qT 3 p l e rmX8_bestBut s m args below meth c 0 0 (MQ below (qQi g NL qT (qmem g S2) r) args s 0 0 (qA g)) (qmem g S) 0 [(0, .ref (qa g 111)), (1, .ref (qa g a1)), (2, .int v2)] []
  unfold F8_bestBut at h
  refine q_aload_n C 0 dX8_bestBut_0 rfl rfl ?_
  refine q_aload_n C 1 dX8_bestBut_1 rfl rfl ?_
  refine q_iload_n C 2 dX8_bestBut_2 rfl rfl ?_
  obtain ⟨S2, hc1, h⟩ := ob1_e h
  refine q_callVv0 C ltp_111 (qmem_o kd_111 (Nat.le_of_ble_eq_true rfl)) rfl rfl (kX8_layCosts n a1 (ha1) v2 S hc1) lm8_81 rfl (rest := []) rfl (Nat.le_of_ble_eq_true rfl) dX8_bestBut_3 ⟨rfl, rfl, Nat.le_of_ble_eq_true rfl, Nat.le_of_ble_eq_true rfl, Nat.le_of_ble_eq_true rfl, Nat.le_of_ble_eq_true rfl⟩ ?_
  refine q_aload_n C 0 dX8_bestBut_6 rfl rfl ?_
  refine q_aload_n C 1 dX8_bestBut_7 rfl rfl ?_
  obtain ⟨r4, S5, hc3, h⟩ := ob2_e h
  refine q_callVi0 C ltp_111 (qmem_o kd_111 (Nat.le_of_ble_eq_true rfl)) rfl rfl (kX8_best n a1 (ha1) S2 hc3) lm8_84 rfl (rest := []) rfl (Nat.le_of_ble_eq_true rfl) dX8_bestBut_8 ⟨rfl, rfl, Nat.le_of_ble_eq_true rfl, Nat.le_of_ble_eq_true rfl, Nat.le_of_ble_eq_true rfl, Nat.le_of_ble_eq_true rfl⟩ ?_
  obtain ⟨rfl, rfl⟩ := Prod.mk.inj (Option.some.inj h)
  exact q_iret C hr (Nat.le_refl 0) (Nat.le_refl 0) dX8_bestBut_11
/-! ClosedStreetsModel.layWay -/
abbrev rmX8_layWay : Room := { frames := 3, cells := 0, slots := 0, locals := 120 }
def B8_layWay_95 (n : Nat) (a1 : Nat) (K37 : Int32 → Int32 → qSt → Option (Int32 × qSt)) (K48 : Int32 → Int32 → Int32 → qSt → Option (Int32 × qSt)) (v3 : Int32) (v4 : Int32) (v5 : Int32) (S : qSt) : Option (Int32 × qSt) := K48 v3 v4 (v5 + 1) S
set_option maxRecDepth 100000 in
set_option maxHeartbeats 4000000 in
theorem W8_layWay_95 {r : Int32} {S2 : qSt} (C : qC g cX8_layWay RX8 6 p s m meth c) (hr : meth.sig.returnType = (some .int)) (n : Nat) (a1 : Nat) (ha1 : tyI a1) (K37 : Int32 → Int32 → qSt → Option (Int32 × qSt)) (hK37 : ∀ (v3 : Int32) (v4 : Int32) (S : qSt), K37 v3 v4 S = some (r, S2) → qR g NL qT 6 p l e rmX8_layWay s m args below meth c 0 0 (MQ below (qQi g NL qT (qmem g S2) r) args s 0 0 (qA g)) (qmem g S) 37 [(0, .ref (qa g 111)), (1, .ref (qa g a1)), (3, .int v3), (4, .int v4)] []) (K48 : Int32 → Int32 → Int32 → qSt → Option (Int32 × qSt)) (hK48 : ∀ (v3 : Int32) (v4 : Int32) (v5 : Int32) (S : qSt), K48 v3 v4 v5 S = some (r, S2) → qR g NL qT 6 p l e rmX8_layWay s m args below meth c 0 0 (MQ below (qQi g NL qT (qmem g S2) r) args s 0 0 (qA g)) (qmem g S) 48 [(0, .ref (qa g 111)), (1, .ref (qa g a1)), (3, .int v3), (4, .int v4), (5, .int v5)] []) (v3 : Int32) (v4 : Int32) (v5 : Int32) (S : qSt) (h : B8_layWay_95 n a1 K37 K48 v3 v4 v5 S = some (r, S2)) : qR g NL qT 6 p l e rmX8_layWay s m args below meth c 0 0 (MQ below (qQi g NL qT (qmem g S2) r) args s 0 0 (qA g)) (qmem g S) 95 [(0, .ref (qa g 111)), (1, .ref (qa g a1)), (3, .int v3), (4, .int v4), (5, .int v5)] [] := by
  unfold B8_layWay_95 at h
  refine q_iinc C 4 (v := v5 + 1) (lv' := [(5, .int (v5 + 1)), (0, .ref (qa g 111)), (1, .ref (qa g a1)), (3, .int v3), (4, .int v4)]) dX8_layWay_95 rfl rfl (by decide) rfl ?_
  refine q_norm [1, 2, 3, 4, 0] rfl ?_
  refine q_goto (tgt := 48) C dX8_layWay_98 (by decide) ?_
  exact hK48 v3 v4 (v5 + 1) S h
def B8_layWay_101 (n : Nat) (a1 : Nat) (K37 : Int32 → Int32 → qSt → Option (Int32 × qSt)) (v3 : Int32) (v5 : Int32) (S : qSt) : Option (Int32 × qSt) := if qin (S 111 15) 9 = true then obs (qup S 122 (S 111 15).toNatClampNeg v5) fun S14 => obs (qup S14 111 15 ((S14 111 15) + 1)) fun S15 => K37 v3 v5 S15 else none
set_option maxRecDepth 100000 in
set_option maxHeartbeats 4000000 in
theorem W8_layWay_101 {r : Int32} {S2 : qSt} (C : qC g cX8_layWay RX8 6 p s m meth c) (hr : meth.sig.returnType = (some .int)) (n : Nat) (a1 : Nat) (ha1 : tyI a1) (K37 : Int32 → Int32 → qSt → Option (Int32 × qSt)) (hK37 : ∀ (v3 : Int32) (v4 : Int32) (S : qSt), K37 v3 v4 S = some (r, S2) → qR g NL qT 6 p l e rmX8_layWay s m args below meth c 0 0 (MQ below (qQi g NL qT (qmem g S2) r) args s 0 0 (qA g)) (qmem g S) 37 [(0, .ref (qa g 111)), (1, .ref (qa g a1)), (3, .int v3), (4, .int v4)] []) (v3 : Int32) (v5 : Int32) (S : qSt) (h : B8_layWay_101 n a1 K37 v3 v5 S = some (r, S2)) : qR g NL qT 6 p l e rmX8_layWay s m args below meth c 0 0 (MQ below (qQi g NL qT (qmem g S2) r) args s 0 0 (qA g)) (qmem g S) 101 [(0, .ref (qa g 111)), (1, .ref (qa g a1)), (3, .int v3), (5, .int v5)] [] := by
  unfold B8_layWay_101 at h
  refine q_iload C 3 dX8_layWay_101 rfl ?_
  refine q_istore C (lv' := [(4, .int v5), (0, .ref (qa g 111)), (1, .ref (qa g a1)), (3, .int v3), (5, .int v5)]) dX8_layWay_103 (by decide) rfl ?_
  refine q_norm [1, 2, 3, 0, 4] rfl ?_
  refine q_aload_n C 0 dX8_layWay_105 rfl rfl ?_
  refine s_getr (a := 122) C lf8_41 ltp_111 kd_111 rfl dX8_layWay_106 ?_
  refine q_aload_n C 0 dX8_layWay_109 rfl rfl ?_
  refine s_geti C lf8_92 ltp_111 kd_111 dX8_layWay_110 ?_
  refine q_iload C 3 dX8_layWay_113 rfl ?_
  obtain ⟨hb13, h⟩ := q_if h
  obtain ⟨S14, hS14, h⟩ := obs_e h
  refine s_iast C ltp_122 kd_122 hb13 dX8_layWay_115 ?_
  rw [← hS14]
  refine q_aload_n C 0 dX8_layWay_116 rfl rfl ?_
  refine q_dup C dX8_layWay_117 rfl ?_
  refine s_geti C lf8_92 ltp_111 kd_111 dX8_layWay_118 ?_
  refine q_iconst (v := 1) C dX8_layWay_121 (by decide) ?_
  refine q_iadd C dX8_layWay_122 ?_
  obtain ⟨S15, hS15, h⟩ := obs_e h
  refine s_puti C lf8_92 ltp_111 kd_111 dX8_layWay_123 ?_
  rw [← hS15]
  refine q_goto (tgt := 37) C dX8_layWay_126 (by decide) ?_
  refine q_norm [0, 1, 2, 3] rfl ?_
  exact hK37 v3 v5 S15 h
def B8_layWay_48 (n : Nat) (a1 : Nat) (K37 : Int32 → Int32 → qSt → Option (Int32 × qSt)) : Nat → Int32 → Int32 → Int32 → qSt → Option (Int32 × qSt)
  | 0, _, _, _, _ => none
  | n9 + 1, v3, v4, v5, S => if qin ((9 * v4) + v5) 81 = true then if (S 120 ((9 * v4) + v5).toNatClampNeg) = 0 then (B8_layWay_95 n a1 K37 (B8_layWay_48 n a1 K37 n9) v3 v4 v5 S) else (if qin v5 9 = true then if qin v4 9 = true then if ((S 120 ((9 * v4) + v5).toNatClampNeg) + (S 121 v5.toNatClampNeg)) = (S 121 v4.toNatClampNeg) then (B8_layWay_101 n a1 K37 v3 v5 S) else (B8_layWay_95 n a1 K37 (B8_layWay_48 n a1 K37 n9) v3 v4 v5 S) else none else none) else none
set_option maxRecDepth 100000 in
set_option maxHeartbeats 4000000 in
theorem W8_layWay_48 {r : Int32} {S2 : qSt} (C : qC g cX8_layWay RX8 6 p s m meth c) (hr : meth.sig.returnType = (some .int)) (n : Nat) (a1 : Nat) (ha1 : tyI a1) (K37 : Int32 → Int32 → qSt → Option (Int32 × qSt)) (hK37 : ∀ (v3 : Int32) (v4 : Int32) (S : qSt), K37 v3 v4 S = some (r, S2) → qR g NL qT 6 p l e rmX8_layWay s m args below meth c 0 0 (MQ below (qQi g NL qT (qmem g S2) r) args s 0 0 (qA g)) (qmem g S) 37 [(0, .ref (qa g 111)), (1, .ref (qa g a1)), (3, .int v3), (4, .int v4)] []) : ∀ (n9 : Nat) (v3 : Int32) (v4 : Int32) (v5 : Int32) (S : qSt), B8_layWay_48 n a1 K37 n9 v3 v4 v5 S = some (r, S2) → qR g NL qT 6 p l e rmX8_layWay s m args below meth c 0 0 (MQ below (qQi g NL qT (qmem g S2) r) args s 0 0 (qA g)) (qmem g S) 48 [(0, .ref (qa g 111)), (1, .ref (qa g a1)), (3, .int v3), (4, .int v4), (5, .int v5)] [] := by
  intro n9
  induction n9 with
  | zero =>
    intro v3 v4 v5 S h
    have h9 : (none : Option (Int32 × qSt)) = some (r, S2) := h
    cases h9
  | succ n9 ih =>
    intro v3 v4 v5 S h
    rw [B8_layWay_48] at h
    refine q_aload_n C 0 dX8_layWay_48 rfl rfl ?_
    refine s_getr (a := 120) C lf8_35 ltp_111 kd_111 rfl dX8_layWay_49 ?_
    refine q_bipush (v := 9) C dX8_layWay_52 (by decide) ?_
    refine q_iload C 3 dX8_layWay_54 rfl ?_
    refine q_imul C dX8_layWay_56 ?_
    refine q_iload C 4 dX8_layWay_57 rfl ?_
    refine q_iadd C dX8_layWay_59 ?_
    obtain ⟨hb10, h⟩ := q_if h
    refine s_iald C ltp_120 kd_120 hb10 dX8_layWay_60 ?_
    refine q_if_eq (tgt := 95) C h dX8_layWay_61 (by decide) (fun h => ?_) (fun h => ?_)
    · exact W8_layWay_95 C hr n a1 ha1 K37 hK37 (B8_layWay_48 n a1 K37 n9) ih v3 v4 v5 S h
    · refine q_aload_n C 0 dX8_layWay_64 rfl rfl ?_
      refine s_getr (a := 120) C lf8_35 ltp_111 kd_111 rfl dX8_layWay_65 ?_
      refine q_bipush (v := 9) C dX8_layWay_68 (by decide) ?_
      refine q_iload C 3 dX8_layWay_70 rfl ?_
      refine q_imul C dX8_layWay_72 ?_
      refine q_iload C 4 dX8_layWay_73 rfl ?_
      refine q_iadd C dX8_layWay_75 ?_
      refine s_iald C ltp_120 kd_120 hb10 dX8_layWay_76 ?_
      refine q_aload_n C 0 dX8_layWay_77 rfl rfl ?_
      refine s_getr (a := 121) C lf8_38 ltp_111 kd_111 rfl dX8_layWay_78 ?_
      refine q_iload C 4 dX8_layWay_81 rfl ?_
      obtain ⟨hb11, h⟩ := q_if h
      refine s_iald C ltp_121 kd_121 hb11 dX8_layWay_83 ?_
      refine q_iadd C dX8_layWay_84 ?_
      refine q_aload_n C 0 dX8_layWay_85 rfl rfl ?_
      refine s_getr (a := 121) C lf8_38 ltp_111 kd_111 rfl dX8_layWay_86 ?_
      refine q_iload C 3 dX8_layWay_89 rfl ?_
      obtain ⟨hb12, h⟩ := q_if h
      refine s_iald C ltp_121 kd_121 hb12 dX8_layWay_91 ?_
      refine q_icmp_eq (tgt := 101) C h dX8_layWay_92 (by decide) (fun h => ?_) (fun h => ?_)
      · refine q_norm [0, 1, 2, 4] rfl ?_
        exact W8_layWay_101 C hr n a1 ha1 K37 hK37 v3 v5 S h
      · exact W8_layWay_95 C hr n a1 ha1 K37 hK37 (B8_layWay_48 n a1 K37 n9) ih v3 v4 v5 S h
def B8_layWay_37 (n : Nat) (a1 : Nat) : Nat → Int32 → Int32 → qSt → Option (Int32 × qSt)
  | 0, _, _, _ => none
  | n9 + 1, v3, v4, S => if qin (3 : Int32) (kd a1).2 = true then if v4 = (S a1 (3 : Int32).toNatClampNeg) then (some (v3, S)) else (B8_layWay_48 n a1 (B8_layWay_37 n a1 n9) n v3 v4 0 S) else none
set_option maxRecDepth 100000 in
set_option maxHeartbeats 4000000 in
theorem W8_layWay_37 {r : Int32} {S2 : qSt} (C : qC g cX8_layWay RX8 6 p s m meth c) (hr : meth.sig.returnType = (some .int)) (n : Nat) (a1 : Nat) (ha1 : tyI a1) : ∀ (n9 : Nat) (v3 : Int32) (v4 : Int32) (S : qSt), B8_layWay_37 n a1 n9 v3 v4 S = some (r, S2) → qR g NL qT 6 p l e rmX8_layWay s m args below meth c 0 0 (MQ below (qQi g NL qT (qmem g S2) r) args s 0 0 (qA g)) (qmem g S) 37 [(0, .ref (qa g 111)), (1, .ref (qa g a1)), (3, .int v3), (4, .int v4)] [] := by
  intro n9
  induction n9 with
  | zero =>
    intro v3 v4 S h
    have h9 : (none : Option (Int32 × qSt)) = some (r, S2) := h
    cases h9
  | succ n9 ih =>
    intro v3 v4 S h
    rw [B8_layWay_37] at h
    refine q_iload C 3 dX8_layWay_37 rfl ?_
    refine q_aload_n C 1 dX8_layWay_39 rfl rfl ?_
    refine q_iconst (v := 3) C dX8_layWay_40 (by decide) ?_
    obtain ⟨hb9, h⟩ := q_if h
    refine s_iald C ha1.1 ha1.2 hb9 dX8_layWay_41 ?_
    refine q_icmp_eq (tgt := 129) C h dX8_layWay_42 (by decide) (fun h => ?_) (fun h => ?_)
    · refine q_iload_n C 2 dX8_layWay_129 rfl rfl ?_
      obtain ⟨rfl, rfl⟩ := Prod.mk.inj (Option.some.inj h)
      exact q_iret C hr (Nat.le_refl 0) (Nat.le_refl 0) dX8_layWay_130
    · refine q_iconst (v := 0) C dX8_layWay_45 (by decide) ?_
      refine q_istore C (lv' := [(5, .int 0), (0, .ref (qa g 111)), (1, .ref (qa g a1)), (3, .int v3), (4, .int v4)]) dX8_layWay_46 (by decide) rfl ?_
      refine q_norm [1, 2, 3, 4, 0] rfl ?_
      exact W8_layWay_48 C hr n a1 ha1 (B8_layWay_37 n a1 n9) ih n v3 v4 0 S h
def F8_layWay (n : Nat) (a1 : Nat) (v2 : Int32) (S : qSt) : Option (Int32 × qSt) := ob2 (F8_bestBut n a1 v2 S) fun r2 S3 => obs (qup S3 111 15 0) fun S4 => if r2 = (-999) then (some (r2, S4)) else (if qin (2 : Int32) (kd a1).2 = true then obs (S4 a1 (2 : Int32).toNatClampNeg) fun x6 => obs (qup S4 122 (0 : Int32).toNatClampNeg x6) fun S7 => obs (qup S7 111 15 1) fun S8 => B8_layWay_37 n a1 n r2 x6 S8 else none)
set_option maxRecDepth 100000 in
set_option maxHeartbeats 4000000 in
theorem kX8_layWay {l : Launch} {g : qG} (n : Nat) (a1 : Nat) (ha1 : tyI a1) (v2 : Int32) (S : qSt) {r : Int32} {S2 : qSt} (h : F8_layWay n a1 v2 S = some (r, S2)) : Met l yX8_layWay [.code yX8_layWay cX8_layWay 6 (some .int)] rmX8_layWay (qPc g NL qT (qmem g S) [.ref (qa g 111), .ref (qa g a1), .int v2]) (qQi g NL qT (qmem g S2) r) 0 0 (qA g) := by
  refine q_met (by decide) (Nat.le_of_ble_eq_true rfl) (fun p e s m args below meth c C hr _ => ?_)
  have C : qC g cX8_layWay RX8 6 p s m meth c := C
  show qR g NL qT 6 p l e rmX8_layWay s m args below meth c 0 0 (MQ below (qQi g NL qT (qmem g S2) r) args s 0 0 (qA g)) (qmem g S) 0 [(0, .ref (qa g 111)), (1, .ref (qa g a1)), (2, .int v2)] []
  unfold F8_layWay at h
  refine q_aload_n C 0 dX8_layWay_0 rfl rfl ?_
  refine q_aload_n C 1 dX8_layWay_1 rfl rfl ?_
  refine q_iload_n C 2 dX8_layWay_2 rfl rfl ?_
  obtain ⟨r2, S3, hc1, h⟩ := ob2_e h
  refine q_callVi0 C ltp_111 (qmem_o kd_111 (Nat.le_of_ble_eq_true rfl)) rfl rfl (kX8_bestBut n a1 (ha1) v2 S hc1) lm8_88 rfl (rest := []) rfl (Nat.le_of_ble_eq_true rfl) dX8_layWay_3 ⟨rfl, rfl, Nat.le_of_ble_eq_true rfl, Nat.le_of_ble_eq_true rfl, Nat.le_of_ble_eq_true rfl, Nat.le_of_ble_eq_true rfl⟩ ?_
  refine q_istore_n C (lv' := [(3, .int r2), (0, .ref (qa g 111)), (1, .ref (qa g a1)), (2, .int v2)]) dX8_layWay_6 rfl (by decide) rfl ?_
  refine q_norm [1, 2, 3, 0] rfl ?_
  refine q_aload_n C 0 dX8_layWay_7 rfl rfl ?_
  refine q_iconst (v := 0) C dX8_layWay_8 (by decide) ?_
  obtain ⟨S4, hS4, h⟩ := obs_e h
  refine s_puti C lf8_92 ltp_111 kd_111 dX8_layWay_9 ?_
  rw [← hS4]
  refine q_iload_n C 3 dX8_layWay_12 rfl rfl ?_
  refine q_sipush (v := (-999)) C dX8_layWay_13 (by decide) ?_
  refine q_icmp_eq (tgt := 129) C h dX8_layWay_16 (by decide) (fun h => ?_) (fun h => ?_)
  · refine q_iload_n C 3 dX8_layWay_129 rfl rfl ?_
    obtain ⟨rfl, rfl⟩ := Prod.mk.inj (Option.some.inj h)
    exact q_iret C hr (Nat.le_refl 0) (Nat.le_refl 0) dX8_layWay_130
  · refine q_aload_n C 1 dX8_layWay_19 rfl rfl ?_
    refine q_iconst (v := 2) C dX8_layWay_20 (by decide) ?_
    obtain ⟨hb5, h⟩ := q_if h
    refine s_iald C ha1.1 ha1.2 hb5 dX8_layWay_21 ?_
    obtain ⟨x6, hx6, h⟩ := obs_e h
    rw [← hx6]
    refine q_istore C (lv' := [(4, .int x6), (0, .ref (qa g 111)), (1, .ref (qa g a1)), (2, .int v2), (3, .int r2)]) dX8_layWay_22 (by decide) rfl ?_
    refine q_norm [1, 2, 3, 4, 0] rfl ?_
    refine q_aload_n C 0 dX8_layWay_24 rfl rfl ?_
    refine s_getr (a := 122) C lf8_41 ltp_111 kd_111 rfl dX8_layWay_25 ?_
    refine q_iconst (v := 0) C dX8_layWay_28 (by decide) ?_
    refine q_iload C 4 dX8_layWay_29 rfl ?_
    obtain ⟨S7, hS7, h⟩ := obs_e h
    refine s_iast C ltp_122 kd_122 (by decide) dX8_layWay_31 ?_
    rw [← hS7]
    refine q_aload_n C 0 dX8_layWay_32 rfl rfl ?_
    refine q_iconst (v := 1) C dX8_layWay_33 (by decide) ?_
    obtain ⟨S8, hS8, h⟩ := obs_e h
    refine s_puti C lf8_92 ltp_111 kd_111 dX8_layWay_34 ?_
    rw [← hS8]
    refine q_norm [0, 1, 3, 4] rfl ?_
    exact W8_layWay_37 C hr n a1 ha1 n r2 x6 S8 h
/-! ClosedStreetsModel.placeOf -/
abbrev rmX8_placeOf : Room := { frames := 0, cells := 0, slots := 0, locals := 0 }
def B8_placeOf_2 (n : Nat) : Nat → Int32 → Int32 → qSt → Option Int32
  | 0, _, _, _ => none
  | n9 + 1, v1, v2, S => if (S 111 15) ≤ v2 then (some (-999)) else (if qin v2 9 = true then if ¬ (S 122 v2.toNatClampNeg) = v1 then ((B8_placeOf_2 n n9) v1 (v2 + 1) S) else (some v2) else none)
set_option maxRecDepth 100000 in
set_option maxHeartbeats 4000000 in
theorem W8_placeOf_2 {r : Int32} (C : qC g cX8_placeOf RX8 3 p s m meth c) (hr : meth.sig.returnType = (some .int)) (n : Nat) : ∀ (n9 : Nat) (v1 : Int32) (v2 : Int32) (S : qSt), B8_placeOf_2 n n9 v1 v2 S = some r → qR g NL qT 3 p l e rmX8_placeOf s m args below meth c 0 0 (MQ below (qQi g NL qT (qmem g S) r) args s 0 0 (qA g)) (qmem g S) 2 [(0, .ref (qa g 111)), (1, .int v1), (2, .int v2)] [] := by
  intro n9
  induction n9 with
  | zero =>
    intro v1 v2 S h
    have h9 : (none : Option Int32) = some r := h
    cases h9
  | succ n9 ih =>
    intro v1 v2 S h
    rw [B8_placeOf_2] at h
    refine q_iload_n C 2 dX8_placeOf_2 rfl rfl ?_
    refine q_aload_n C 0 dX8_placeOf_3 rfl rfl ?_
    refine s_geti C lf8_92 ltp_111 kd_111 dX8_placeOf_4 ?_
    refine q_icmp_ge (tgt := 28) C h dX8_placeOf_7 (by decide) (fun h => ?_) (fun h => ?_)
    · refine q_sipush (v := (-999)) C dX8_placeOf_28 (by decide) ?_
      obtain rfl := Option.some.inj h
      exact q_iret C hr (Nat.le_refl 0) (Nat.le_refl 0) dX8_placeOf_31
    · refine q_aload_n C 0 dX8_placeOf_10 rfl rfl ?_
      refine s_getr (a := 122) C lf8_41 ltp_111 kd_111 rfl dX8_placeOf_11 ?_
      refine q_iload_n C 2 dX8_placeOf_14 rfl rfl ?_
      obtain ⟨hb1, h⟩ := q_if h
      refine s_iald C ltp_122 kd_122 hb1 dX8_placeOf_15 ?_
      refine q_iload_n C 1 dX8_placeOf_16 rfl rfl ?_
      refine q_icmp_ne (tgt := 22) C h dX8_placeOf_17 (by decide) (fun h => ?_) (fun h => ?_)
      · refine q_iinc C 2 (v := v2 + 1) (lv' := [(2, .int (v2 + 1)), (0, .ref (qa g 111)), (1, .int v1)]) dX8_placeOf_22 rfl rfl (by decide) rfl ?_
        refine q_norm [1, 2, 0] rfl ?_
        refine q_goto (tgt := 2) C dX8_placeOf_25 (by decide) ?_
        exact ih v1 (v2 + 1) S h
      · refine q_iload_n C 2 dX8_placeOf_20 rfl rfl ?_
        obtain rfl := Option.some.inj h
        exact q_iret C hr (Nat.le_refl 0) (Nat.le_refl 0) dX8_placeOf_21
def F8_placeOf (n : Nat) (v1 : Int32) (S : qSt) : Option Int32 := B8_placeOf_2 n n v1 0 S
set_option maxRecDepth 100000 in
set_option maxHeartbeats 4000000 in
theorem kX8_placeOf {l : Launch} {g : qG} (n : Nat) (v1 : Int32) (S : qSt) {r : Int32} (h : F8_placeOf n v1 S = some r) : Met l yX8_placeOf [.code yX8_placeOf cX8_placeOf 3 (some .int)] rmX8_placeOf (qPc g NL qT (qmem g S) [.ref (qa g 111), .int v1]) (qQi g NL qT (qmem g S) r) 0 0 (qA g) := by
  refine q_met (by decide) (Nat.le_of_ble_eq_true rfl) (fun p e s m args below meth c C hr _ => ?_)
  have C : qC g cX8_placeOf RX8 3 p s m meth c := C
  show qR g NL qT 3 p l e rmX8_placeOf s m args below meth c 0 0 (MQ below (qQi g NL qT (qmem g S) r) args s 0 0 (qA g)) (qmem g S) 0 [(0, .ref (qa g 111)), (1, .int v1)] []
  unfold F8_placeOf at h
  refine q_iconst (v := 0) C dX8_placeOf_0 (by decide) ?_
  refine q_istore_n C (lv' := [(2, .int 0), (0, .ref (qa g 111)), (1, .int v1)]) dX8_placeOf_1 rfl (by decide) rfl ?_
  refine q_norm [1, 2, 0] rfl ?_
  exact W8_placeOf_2 C hr n n v1 0 S h
/-! ClosedStreetsModel.isOfWay -/
abbrev rmX8_isOfWay : Room := { frames := 1, cells := 0, slots := 0, locals := 40 }
def B8_isOfWay_53 (n : Nat) (a1 : Nat) (S : qSt) : Option Int32 := some 1
set_option maxRecDepth 100000 in
set_option maxHeartbeats 4000000 in
theorem W8_isOfWay_53 {r : Int32} (C : qC g cX8_isOfWay RX8 5 p s m meth c) (hr : meth.sig.returnType = (some .boolean)) (n : Nat) (a1 : Nat) (ha1 : tyI a1) (S : qSt) (h : B8_isOfWay_53 n a1 S = some r) : qR g NL qT 5 p l e rmX8_isOfWay s m args below meth c 0 0 (MQ below (qQi g NL qT (qmem g S) r) args s 0 0 (qA g)) (qmem g S) 53 [] [] := by
  unfold B8_isOfWay_53 at h
  refine q_iconst (v := 1) C dX8_isOfWay_53 (by decide) ?_
  refine q_goto (tgt := 58) C dX8_isOfWay_54 (by decide) ?_
  obtain rfl := Option.some.inj h
  exact q_zret C hr (by decide) (Nat.le_refl 0) (Nat.le_refl 0) dX8_isOfWay_58
def F8_isOfWay (n : Nat) (a1 : Nat) (v2 : Int32) (S : qSt) : Option Int32 := if qin (4 + v2) (kd a1).2 = true then ob1 (F8_placeOf n (S a1 (4 + v2).toNatClampNeg) S) fun r3 => if qin (24 + v2) (kd a1).2 = true then ob1 (F8_placeOf n (S a1 (24 + v2).toNatClampNeg) S) fun r6 => if r3 = (-999) then (some 0) else (if r6 = (-999) then (some 0) else (if (r3 - r6) = 1 then (B8_isOfWay_53 n a1 S) else (if ¬ (r6 - r3) = 1 then (some 0) else (B8_isOfWay_53 n a1 S)))) else none else none
set_option maxRecDepth 100000 in
set_option maxHeartbeats 4000000 in
theorem kX8_isOfWay {l : Launch} {g : qG} (n : Nat) (a1 : Nat) (ha1 : tyI a1) (v2 : Int32) (S : qSt) {r : Int32} (h : F8_isOfWay n a1 v2 S = some r) : Met l yX8_isOfWay [.code yX8_isOfWay cX8_isOfWay 5 (some .boolean)] rmX8_isOfWay (qPc g NL qT (qmem g S) [.ref (qa g 111), .ref (qa g a1), .int v2]) (qQi g NL qT (qmem g S) r) 0 0 (qA g) := by
  refine q_met (by decide) (Nat.le_of_ble_eq_true rfl) (fun p e s m args below meth c C hr _ => ?_)
  have C : qC g cX8_isOfWay RX8 5 p s m meth c := C
  show qR g NL qT 5 p l e rmX8_isOfWay s m args below meth c 0 0 (MQ below (qQi g NL qT (qmem g S) r) args s 0 0 (qA g)) (qmem g S) 0 [(0, .ref (qa g 111)), (1, .ref (qa g a1)), (2, .int v2)] []
  unfold F8_isOfWay at h
  refine q_aload_n C 0 dX8_isOfWay_0 rfl rfl ?_
  refine q_aload_n C 1 dX8_isOfWay_1 rfl rfl ?_
  refine q_iconst (v := 4) C dX8_isOfWay_2 (by decide) ?_
  refine q_iload_n C 2 dX8_isOfWay_3 rfl rfl ?_
  refine q_iadd C dX8_isOfWay_4 ?_
  obtain ⟨hb1, h⟩ := q_if h
  refine s_iald C ha1.1 ha1.2 hb1 dX8_isOfWay_5 ?_
  obtain ⟨r3, hc2, h⟩ := ob1_e h
  refine q_callVi0 C ltp_111 (qmem_o kd_111 (Nat.le_of_ble_eq_true rfl)) rfl rfl (kX8_placeOf n (S a1 (4 + v2).toNatClampNeg) S hc2) lm8_95 rfl (rest := []) rfl (Nat.le_of_ble_eq_true rfl) dX8_isOfWay_6 ⟨rfl, rfl, Nat.le_of_ble_eq_true rfl, Nat.le_of_ble_eq_true rfl, Nat.le_of_ble_eq_true rfl, Nat.le_of_ble_eq_true rfl⟩ ?_
  refine q_istore_n C (lv' := [(3, .int r3), (0, .ref (qa g 111)), (1, .ref (qa g a1)), (2, .int v2)]) dX8_isOfWay_9 rfl (by decide) rfl ?_
  refine q_norm [1, 2, 3, 0] rfl ?_
  refine q_aload_n C 0 dX8_isOfWay_10 rfl rfl ?_
  refine q_aload_n C 1 dX8_isOfWay_11 rfl rfl ?_
  refine q_bipush (v := 24) C dX8_isOfWay_12 (by decide) ?_
  refine q_iload_n C 2 dX8_isOfWay_14 rfl rfl ?_
  refine q_iadd C dX8_isOfWay_15 ?_
  obtain ⟨hb4, h⟩ := q_if h
  refine s_iald C ha1.1 ha1.2 hb4 dX8_isOfWay_16 ?_
  obtain ⟨r6, hc5, h⟩ := ob1_e h
  refine q_callVi0 C ltp_111 (qmem_o kd_111 (Nat.le_of_ble_eq_true rfl)) rfl rfl (kX8_placeOf n (S a1 (24 + v2).toNatClampNeg) S hc5) lm8_95 rfl (rest := []) rfl (Nat.le_of_ble_eq_true rfl) dX8_isOfWay_17 ⟨rfl, rfl, Nat.le_of_ble_eq_true rfl, Nat.le_of_ble_eq_true rfl, Nat.le_of_ble_eq_true rfl, Nat.le_of_ble_eq_true rfl⟩ ?_
  refine q_istore C (lv' := [(4, .int r6), (0, .ref (qa g 111)), (1, .ref (qa g a1)), (2, .int v2), (3, .int r3)]) dX8_isOfWay_20 (by decide) rfl ?_
  refine q_norm [1, 2, 3, 4, 0] rfl ?_
  refine q_iload_n C 3 dX8_isOfWay_22 rfl rfl ?_
  refine q_sipush (v := (-999)) C dX8_isOfWay_23 (by decide) ?_
  refine q_icmp_eq (tgt := 57) C h dX8_isOfWay_26 (by decide) (fun h => ?_) (fun h => ?_)
  · refine q_iconst (v := 0) C dX8_isOfWay_57 (by decide) ?_
    obtain rfl := Option.some.inj h
    exact q_zret C hr (by decide) (Nat.le_refl 0) (Nat.le_refl 0) dX8_isOfWay_58
  · refine q_iload C 4 dX8_isOfWay_29 rfl ?_
    refine q_sipush (v := (-999)) C dX8_isOfWay_31 (by decide) ?_
    refine q_icmp_eq (tgt := 57) C h dX8_isOfWay_34 (by decide) (fun h => ?_) (fun h => ?_)
    · refine q_iconst (v := 0) C dX8_isOfWay_57 (by decide) ?_
      obtain rfl := Option.some.inj h
      exact q_zret C hr (by decide) (Nat.le_refl 0) (Nat.le_refl 0) dX8_isOfWay_58
    · refine q_iload_n C 3 dX8_isOfWay_37 rfl rfl ?_
      refine q_iload C 4 dX8_isOfWay_38 rfl ?_
      refine q_isub C dX8_isOfWay_40 ?_
      refine q_iconst (v := 1) C dX8_isOfWay_41 (by decide) ?_
      refine q_icmp_eq (tgt := 53) C h dX8_isOfWay_42 (by decide) (fun h => ?_) (fun h => ?_)
      · refine q_norm [] rfl ?_
        exact W8_isOfWay_53 C hr n a1 ha1 S h
      · refine q_iload C 4 dX8_isOfWay_45 rfl ?_
        refine q_iload_n C 3 dX8_isOfWay_47 rfl rfl ?_
        refine q_isub C dX8_isOfWay_48 ?_
        refine q_iconst (v := 1) C dX8_isOfWay_49 (by decide) ?_
        refine q_icmp_ne (tgt := 57) C h dX8_isOfWay_50 (by decide) (fun h => ?_) (fun h => ?_)
        · refine q_iconst (v := 0) C dX8_isOfWay_57 (by decide) ?_
          obtain rfl := Option.some.inj h
          exact q_zret C hr (by decide) (Nat.le_refl 0) (Nat.le_refl 0) dX8_isOfWay_58
        · refine q_norm [] rfl ?_
          exact W8_isOfWay_53 C hr n a1 ha1 S h
/-! ClosedStreetsModel.append -/
abbrev rmX8_append : Room := { frames := 1, cells := 0, slots := 0, locals := 40 }
def B8_append_32 (v1 : Int32) (t1 : Int32) (S : qSt) : Option (Int32 × qSt) := ob2 (F8_refused t1 S) fun r2 S3 => if r2 = 0 then (if qin (S3 111 2) 140 = true then obs (qup S3 112 (S3 111 2).toNatClampNeg v1) fun S5 => obs (qup S5 111 2 ((S5 111 2) + 1)) fun S6 => some (S6 111 2, S6) else none) else (some (0, S3))
set_option maxRecDepth 100000 in
set_option maxHeartbeats 4000000 in
theorem W8_append_32 {r : Int32} {S2 : qSt} (C : qC g cX8_append RX8 2 p s m meth c) (hr : meth.sig.returnType = (some .int)) (v1 : Int32) (t1 : Int32) (S : qSt) (h : B8_append_32 v1 t1 S = some (r, S2)) : qR g NL qT 2 p l e rmX8_append s m args below meth c 0 0 (MQ below (qQi g NL qT (qmem g S2) r) args s 0 0 (qA g)) (qmem g S) 32 [(0, .ref (qa g 111)), (1, .int v1)] [.int t1, .ref (qa g 111)] := by
  unfold B8_append_32 at h
  obtain ⟨r2, S3, hc1, h⟩ := ob2_e h
  refine q_callVi0 C ltp_111 (qmem_o kd_111 (Nat.le_of_ble_eq_true rfl)) rfl rfl (kX8_refused t1 S hc1) lm8_103 rfl (rest := []) rfl (Nat.le_of_ble_eq_true rfl) dX8_append_32 ⟨rfl, rfl, Nat.le_of_ble_eq_true rfl, Nat.le_of_ble_eq_true rfl, Nat.le_of_ble_eq_true rfl, Nat.le_of_ble_eq_true rfl⟩ ?_
  refine q_if_eq (tgt := 40) C h dX8_append_35 (by decide) (fun h => ?_) (fun h => ?_)
  · refine q_aload_n C 0 dX8_append_40 rfl rfl ?_
    refine s_getr (a := 112) C lf8_7 ltp_111 kd_111 rfl dX8_append_41 ?_
    refine q_aload_n C 0 dX8_append_44 rfl rfl ?_
    refine s_geti C lf8_100 ltp_111 kd_111 dX8_append_45 ?_
    refine q_iload_n C 1 dX8_append_48 rfl rfl ?_
    obtain ⟨hb4, h⟩ := q_if h
    obtain ⟨S5, hS5, h⟩ := obs_e h
    refine s_iast C ltp_112 kd_112 hb4 dX8_append_49 ?_
    rw [← hS5]
    refine q_aload_n C 0 dX8_append_50 rfl rfl ?_
    refine q_dup C dX8_append_51 rfl ?_
    refine s_geti C lf8_100 ltp_111 kd_111 dX8_append_52 ?_
    refine q_iconst (v := 1) C dX8_append_55 (by decide) ?_
    refine q_iadd C dX8_append_56 ?_
    obtain ⟨S6, hS6, h⟩ := obs_e h
    refine s_puti C lf8_100 ltp_111 kd_111 dX8_append_57 ?_
    rw [← hS6]
    refine q_aload_n C 0 dX8_append_60 rfl rfl ?_
    refine s_geti C lf8_100 ltp_111 kd_111 dX8_append_61 ?_
    obtain ⟨rfl, rfl⟩ := Prod.mk.inj (Option.some.inj h)
    exact q_iret C hr (Nat.le_refl 0) (Nat.le_refl 0) dX8_append_64
  · refine q_iconst (v := 0) C dX8_append_38 (by decide) ?_
    obtain ⟨rfl, rfl⟩ := Prod.mk.inj (Option.some.inj h)
    exact q_iret C hr (Nat.le_refl 0) (Nat.le_refl 0) dX8_append_39
def F8_append (v1 : Int32) (S : qSt) : Option (Int32 × qSt) := if ¬ (F8_in v1.toInt64 0 255 S) = 0 then (if ¬ (S 111 2) = 140 then (B8_append_32 v1 0 S) else (B8_append_32 v1 2 S)) else (B8_append_32 v1 1 S)
set_option maxRecDepth 100000 in
set_option maxHeartbeats 4000000 in
theorem kX8_append {l : Launch} {g : qG} (v1 : Int32) (S : qSt) {r : Int32} {S2 : qSt} (h : F8_append v1 S = some (r, S2)) : Met l yX8_append [.code yX8_append cX8_append 2 (some .int)] rmX8_append (qPc g NL qT (qmem g S) [.ref (qa g 111), .int v1]) (qQi g NL qT (qmem g S2) r) 0 0 (qA g) := by
  refine q_met (by decide) (Nat.le_of_ble_eq_true rfl) (fun p e s m args below meth c C hr _ => ?_)
  have C : qC g cX8_append RX8 2 p s m meth c := C
  show qR g NL qT 2 p l e rmX8_append s m args below meth c 0 0 (MQ below (qQi g NL qT (qmem g S2) r) args s 0 0 (qA g)) (qmem g S) 0 [(0, .ref (qa g 111)), (1, .int v1)] []
  unfold F8_append at h
  refine q_aload_n C 0 dX8_append_0 rfl rfl ?_
  refine q_iload_n C 1 dX8_append_1 rfl rfl ?_
  refine q_i2l C dX8_append_2 rfl ?_
  refine q_lconst (v := 0) C dX8_append_3 (by decide) ?_
  refine q_ldc2 (v := 255) C lc8_98 dX8_append_4 ?_
  refine q_callSi0 C (kX8_in v1.toInt64 0 255 S) lm8_65 rfl (rest := [.ref (qa g 111)]) rfl (Nat.le_of_ble_eq_true rfl) dX8_append_7 ⟨rfl, rfl, Nat.le_of_ble_eq_true rfl, Nat.le_of_ble_eq_true rfl, Nat.le_of_ble_eq_true rfl, Nat.le_of_ble_eq_true rfl⟩ ?_
  refine q_if_ne (tgt := 17) C h dX8_append_10 (by decide) (fun h => ?_) (fun h => ?_)
  · refine q_aload_n C 0 dX8_append_17 rfl rfl ?_
    refine s_geti C lf8_100 ltp_111 kd_111 dX8_append_18 ?_
    refine q_sipush (v := 140) C dX8_append_21 (by decide) ?_
    refine q_icmp_ne (tgt := 31) C h dX8_append_24 (by decide) (fun h => ?_) (fun h => ?_)
    · refine q_iconst (v := 0) C dX8_append_31 (by decide) ?_
      exact W8_append_32 C hr v1 0 S h
    · refine q_iconst (v := 2) C dX8_append_27 (by decide) ?_
      refine q_goto (tgt := 32) C dX8_append_28 (by decide) ?_
      exact W8_append_32 C hr v1 2 S h
  · refine q_iconst (v := 1) C dX8_append_13 (by decide) ?_
    refine q_goto (tgt := 32) C dX8_append_14 (by decide) ?_
    exact W8_append_32 C hr v1 1 S h
/-! ClosedStreetsModel.clearText -/
abbrev rmX8_clearText : Room := { frames := 0, cells := 0, slots := 0, locals := 0 }
def F8_clearText (S : qSt) : Option (Int32 × qSt) := obs (qup S 111 2 0) fun S1 => some (S 111 2, S1)
set_option maxRecDepth 100000 in
set_option maxHeartbeats 4000000 in
theorem kX8_clearText {l : Launch} {g : qG} (S : qSt) {r : Int32} {S2 : qSt} (h : F8_clearText S = some (r, S2)) : Met l yX8_clearText [.code yX8_clearText cX8_clearText 2 (some .int)] rmX8_clearText (qPc g NL qT (qmem g S) [.ref (qa g 111)]) (qQi g NL qT (qmem g S2) r) 0 0 (qA g) := by
  refine q_met (by decide) (Nat.le_of_ble_eq_true rfl) (fun p e s m args below meth c C hr _ => ?_)
  have C : qC g cX8_clearText RX8 2 p s m meth c := C
  show qR g NL qT 2 p l e rmX8_clearText s m args below meth c 0 0 (MQ below (qQi g NL qT (qmem g S2) r) args s 0 0 (qA g)) (qmem g S) 0 [(0, .ref (qa g 111))] []
  unfold F8_clearText at h
  refine q_aload_n C 0 dX8_clearText_0 rfl rfl ?_
  refine s_geti C lf8_100 ltp_111 kd_111 dX8_clearText_1 ?_
  refine q_istore_n C (lv' := [(1, .int (S 111 2)), (0, .ref (qa g 111))]) dX8_clearText_4 rfl (by decide) rfl ?_
  refine q_norm [1, 0] rfl ?_
  refine q_aload_n C 0 dX8_clearText_5 rfl rfl ?_
  refine q_iconst (v := 0) C dX8_clearText_6 (by decide) ?_
  obtain ⟨S1, hS1, h⟩ := obs_e h
  refine s_puti C lf8_100 ltp_111 kd_111 dX8_clearText_7 ?_
  rw [← hS1]
  refine q_iload_n C 1 dX8_clearText_10 rfl rfl ?_
  obtain ⟨rfl, rfl⟩ := Prod.mk.inj (Option.some.inj h)
  exact q_iret C hr (Nat.le_refl 0) (Nat.le_refl 0) dX8_clearText_11
/-! ClosedStreetsModel.digit -/
abbrev rmX8_digit : Room := { frames := 1, cells := 0, slots := 0, locals := 40 }
def B8_digit_29 (v1 : Int32) (v2 : Int32) (t0 : Int32) (S : qSt) : Option (Int32 × qSt) := if ¬ (F8_in t0.toInt64 v1.toInt64 v2.toInt64 S) = 0 then (obs (qup S 111 3 ((S 111 3) + 1)) fun S1 => some (t0, S1)) else (some ((-999), S))
set_option maxRecDepth 100000 in
set_option maxHeartbeats 4000000 in
theorem W8_digit_29 {r : Int32} {S2 : qSt} (C : qC g cX8_digit RX8 4 p s m meth c) (hr : meth.sig.returnType = (some .int)) (v1 : Int32) (v2 : Int32) (t0 : Int32) (S : qSt) (h : B8_digit_29 v1 v2 t0 S = some (r, S2)) : qR g NL qT 4 p l e rmX8_digit s m args below meth c 0 0 (MQ below (qQi g NL qT (qmem g S2) r) args s 0 0 (qA g)) (qmem g S) 29 [(0, .ref (qa g 111)), (1, .int v1), (2, .int v2)] [.int t0] := by
  unfold B8_digit_29 at h
  refine q_istore_n C (lv' := [(3, .int t0), (0, .ref (qa g 111)), (1, .int v1), (2, .int v2)]) dX8_digit_29 rfl (by decide) rfl ?_
  refine q_norm [1, 2, 3, 0] rfl ?_
  refine q_iload_n C 3 dX8_digit_30 rfl rfl ?_
  refine q_i2l C dX8_digit_31 rfl ?_
  refine q_iload_n C 1 dX8_digit_32 rfl rfl ?_
  refine q_i2l C dX8_digit_33 rfl ?_
  refine q_iload_n C 2 dX8_digit_34 rfl rfl ?_
  refine q_i2l C dX8_digit_35 rfl ?_
  refine q_callSi0 C (kX8_in t0.toInt64 v1.toInt64 v2.toInt64 S) lm8_65 rfl (rest := []) rfl (Nat.le_of_ble_eq_true rfl) dX8_digit_36 ⟨rfl, rfl, Nat.le_of_ble_eq_true rfl, Nat.le_of_ble_eq_true rfl, Nat.le_of_ble_eq_true rfl, Nat.le_of_ble_eq_true rfl⟩ ?_
  refine q_if_ne (tgt := 46) C h dX8_digit_39 (by decide) (fun h => ?_) (fun h => ?_)
  · refine q_aload_n C 0 dX8_digit_46 rfl rfl ?_
    refine q_dup C dX8_digit_47 rfl ?_
    refine s_geti C lf8_107 ltp_111 kd_111 dX8_digit_48 ?_
    refine q_iconst (v := 1) C dX8_digit_51 (by decide) ?_
    refine q_iadd C dX8_digit_52 ?_
    obtain ⟨S1, hS1, h⟩ := obs_e h
    refine s_puti C lf8_107 ltp_111 kd_111 dX8_digit_53 ?_
    rw [← hS1]
    refine q_iload_n C 3 dX8_digit_56 rfl rfl ?_
    obtain ⟨rfl, rfl⟩ := Prod.mk.inj (Option.some.inj h)
    exact q_iret C hr (Nat.le_refl 0) (Nat.le_refl 0) dX8_digit_57
  · refine q_sipush (v := (-999)) C dX8_digit_42 (by decide) ?_
    obtain ⟨rfl, rfl⟩ := Prod.mk.inj (Option.some.inj h)
    exact q_iret C hr (Nat.le_refl 0) (Nat.le_refl 0) dX8_digit_45
def F8_digit (v1 : Int32) (v2 : Int32) (S : qSt) : Option (Int32 × qSt) := if (S 111 2) ≤ (S 111 3) then (B8_digit_29 v1 v2 (-999) S) else (if qin (S 111 3) 140 = true then B8_digit_29 v1 v2 ((S 112 (S 111 3).toNatClampNeg) - 48) S else none)
set_option maxRecDepth 100000 in
set_option maxHeartbeats 4000000 in
theorem kX8_digit {l : Launch} {g : qG} (v1 : Int32) (v2 : Int32) (S : qSt) {r : Int32} {S2 : qSt} (h : F8_digit v1 v2 S = some (r, S2)) : Met l yX8_digit [.code yX8_digit cX8_digit 4 (some .int)] rmX8_digit (qPc g NL qT (qmem g S) [.ref (qa g 111), .int v1, .int v2]) (qQi g NL qT (qmem g S2) r) 0 0 (qA g) := by
  refine q_met (by decide) (Nat.le_of_ble_eq_true rfl) (fun p e s m args below meth c C hr _ => ?_)
  have C : qC g cX8_digit RX8 4 p s m meth c := C
  show qR g NL qT 4 p l e rmX8_digit s m args below meth c 0 0 (MQ below (qQi g NL qT (qmem g S2) r) args s 0 0 (qA g)) (qmem g S) 0 [(0, .ref (qa g 111)), (1, .int v1), (2, .int v2)] []
  unfold F8_digit at h
  refine q_aload_n C 0 dX8_digit_0 rfl rfl ?_
  refine s_geti C lf8_107 ltp_111 kd_111 dX8_digit_1 ?_
  refine q_aload_n C 0 dX8_digit_4 rfl rfl ?_
  refine s_geti C lf8_100 ltp_111 kd_111 dX8_digit_5 ?_
  refine q_icmp_ge (tgt := 26) C h dX8_digit_8 (by decide) (fun h => ?_) (fun h => ?_)
  · refine q_sipush (v := (-999)) C dX8_digit_26 (by decide) ?_
    exact W8_digit_29 C hr v1 v2 (-999) S h
  · refine q_aload_n C 0 dX8_digit_11 rfl rfl ?_
    refine s_getr (a := 112) C lf8_7 ltp_111 kd_111 rfl dX8_digit_12 ?_
    refine q_aload_n C 0 dX8_digit_15 rfl rfl ?_
    refine s_geti C lf8_107 ltp_111 kd_111 dX8_digit_16 ?_
    obtain ⟨hb2, h⟩ := q_if h
    refine s_iald C ltp_112 kd_112 hb2 dX8_digit_19 ?_
    refine q_bipush (v := 48) C dX8_digit_20 (by decide) ?_
    refine q_isub C dX8_digit_22 ?_
    refine q_goto (tgt := 29) C dX8_digit_23 (by decide) ?_
    exact W8_digit_29 C hr v1 v2 ((S 112 (S 111 3).toNatClampNeg) - 48) S h
/-! ClosedStreetsModel.readStreet -/
abbrev rmX8_readStreet : Room := { frames := 2, cells := 0, slots := 0, locals := 80 }
def B8_readStreet_163 (n : Nat) (v2 : Int32) (v3 : Int32) (v4 : Int32) (t0 : Int32) (S : qSt) : Option (Int32 × qSt) := if ¬ t0 = (-999) then (ob2 (F8_build 113 v2 v3 ((10 * v4) + t0) S) fun r15 S16 => if (S16 111 2) ≤ (S16 111 3) then (some (1, S16)) else (if qin (S16 111 3) 140 = true then if ¬ (S16 112 (S16 111 3).toNatClampNeg) = 120 then (some (1, S16)) else (if qin (64 + r15) 84 = true then obs (qup S16 113 (64 + r15).toNatClampNeg (1 : Int32)) fun S19 => obs (qup S19 111 3 ((S19 111 3) + 1)) fun S20 => some (1, S20) else none) else none)) else (some (0, S))
set_option maxRecDepth 100000 in
set_option maxHeartbeats 4000000 in
theorem W8_readStreet_163 {r : Int32} {S2 : qSt} (C : qC g cX8_readStreet RX8 7 p s m meth c) (hr : meth.sig.returnType = (some .boolean)) (n : Nat) (v2 : Int32) (v3 : Int32) (v4 : Int32) (t0 : Int32) (S : qSt) (h : B8_readStreet_163 n v2 v3 v4 t0 S = some (r, S2)) : qR g NL qT 7 p l e rmX8_readStreet s m args below meth c 0 0 (MQ below (qQi g NL qT (qmem g S2) r) args s 0 0 (qA g)) (qmem g S) 163 [(0, .ref (qa g 111)), (2, .int v2), (3, .int v3), (4, .int v4)] [.int t0] := by
  unfold B8_readStreet_163 at h
  refine q_istore C (lv' := [(5, .int t0), (0, .ref (qa g 111)), (2, .int v2), (3, .int v3), (4, .int v4)]) dX8_readStreet_163 (by decide) rfl ?_
  refine q_norm [1, 2, 3, 4, 0] rfl ?_
  refine q_iload C 4 dX8_readStreet_165 rfl ?_
  refine q_sipush (v := (-999)) C dX8_readStreet_167 (by decide) ?_
  refine q_icmp_ne (tgt := 175) C h dX8_readStreet_170 (by decide) (fun h => ?_) (fun h => ?_)
  · refine q_aload_n C 0 dX8_readStreet_175 rfl rfl ?_
    refine s_getr (a := 113) C lf8_13 ltp_111 kd_111 rfl dX8_readStreet_176 ?_
    refine q_iload_n C 1 dX8_readStreet_179 rfl rfl ?_
    refine q_iload_n C 2 dX8_readStreet_180 rfl rfl ?_
    refine q_bipush (v := 10) C dX8_readStreet_181 (by decide) ?_
    refine q_iload C 3 dX8_readStreet_183 rfl ?_
    refine q_imul C dX8_readStreet_185 ?_
    refine q_iload C 4 dX8_readStreet_186 rfl ?_
    refine q_iadd C dX8_readStreet_188 ?_
    obtain ⟨r15, S16, hc14, h⟩ := ob2_e h
    refine q_callSi0 C (kX8_build 113 (tyI_113) v2 v3 ((10 * v4) + t0) S hc14) lm8_122 rfl (rest := []) rfl (Nat.le_of_ble_eq_true rfl) dX8_readStreet_189 ⟨rfl, rfl, Nat.le_of_ble_eq_true rfl, Nat.le_of_ble_eq_true rfl, Nat.le_of_ble_eq_true rfl, Nat.le_of_ble_eq_true rfl⟩ ?_
    refine q_istore C (lv' := [(6, .int r15), (0, .ref (qa g 111)), (2, .int v2), (3, .int v3), (4, .int v4), (5, .int t0)]) dX8_readStreet_192 (by decide) rfl ?_
    refine q_norm [1, 2, 3, 4, 5, 0] rfl ?_
    refine q_aload_n C 0 dX8_readStreet_194 rfl rfl ?_
    refine s_geti C lf8_107 ltp_111 kd_111 dX8_readStreet_195 ?_
    refine q_aload_n C 0 dX8_readStreet_198 rfl rfl ?_
    refine s_geti C lf8_100 ltp_111 kd_111 dX8_readStreet_199 ?_
    refine q_icmp_ge (tgt := 240) C h dX8_readStreet_202 (by decide) (fun h => ?_) (fun h => ?_)
    · refine q_iconst (v := 1) C dX8_readStreet_240 (by decide) ?_
      obtain ⟨rfl, rfl⟩ := Prod.mk.inj (Option.some.inj h)
      exact q_zret C hr (by decide) (Nat.le_refl 0) (Nat.le_refl 0) dX8_readStreet_241
    · refine q_aload_n C 0 dX8_readStreet_205 rfl rfl ?_
      refine s_getr (a := 112) C lf8_7 ltp_111 kd_111 rfl dX8_readStreet_206 ?_
      refine q_aload_n C 0 dX8_readStreet_209 rfl rfl ?_
      refine s_geti C lf8_107 ltp_111 kd_111 dX8_readStreet_210 ?_
      obtain ⟨hb17, h⟩ := q_if h
      refine s_iald C ltp_112 kd_112 hb17 dX8_readStreet_213 ?_
      refine q_bipush (v := 120) C dX8_readStreet_214 (by decide) ?_
      refine q_icmp_ne (tgt := 240) C h dX8_readStreet_216 (by decide) (fun h => ?_) (fun h => ?_)
      · refine q_iconst (v := 1) C dX8_readStreet_240 (by decide) ?_
        obtain ⟨rfl, rfl⟩ := Prod.mk.inj (Option.some.inj h)
        exact q_zret C hr (by decide) (Nat.le_refl 0) (Nat.le_refl 0) dX8_readStreet_241
      · refine q_aload_n C 0 dX8_readStreet_219 rfl rfl ?_
        refine s_getr (a := 113) C lf8_13 ltp_111 kd_111 rfl dX8_readStreet_220 ?_
        refine q_bipush (v := 64) C dX8_readStreet_223 (by decide) ?_
        refine q_iload C 5 dX8_readStreet_225 rfl ?_
        refine q_iadd C dX8_readStreet_227 ?_
        refine q_iconst (v := 1) C dX8_readStreet_228 (by decide) ?_
        obtain ⟨hb18, h⟩ := q_if h
        obtain ⟨S19, hS19, h⟩ := obs_e h
        refine s_iast C ltp_113 kd_113 hb18 dX8_readStreet_229 ?_
        rw [← hS19]
        refine q_aload_n C 0 dX8_readStreet_230 rfl rfl ?_
        refine q_dup C dX8_readStreet_231 rfl ?_
        refine s_geti C lf8_107 ltp_111 kd_111 dX8_readStreet_232 ?_
        refine q_iconst (v := 1) C dX8_readStreet_235 (by decide) ?_
        refine q_iadd C dX8_readStreet_236 ?_
        obtain ⟨S20, hS20, h⟩ := obs_e h
        refine s_puti C lf8_107 ltp_111 kd_111 dX8_readStreet_237 ?_
        rw [← hS20]
        refine q_iconst (v := 1) C dX8_readStreet_240 (by decide) ?_
        obtain ⟨rfl, rfl⟩ := Prod.mk.inj (Option.some.inj h)
        exact q_zret C hr (by decide) (Nat.le_refl 0) (Nat.le_refl 0) dX8_readStreet_241
  · refine q_iconst (v := 0) C dX8_readStreet_173 (by decide) ?_
    obtain ⟨rfl, rfl⟩ := Prod.mk.inj (Option.some.inj h)
    exact q_zret C hr (by decide) (Nat.le_refl 0) (Nat.le_refl 0) dX8_readStreet_174
def B8_readStreet_158 (n : Nat) (v2 : Int32) (v3 : Int32) (v4 : Int32) (t1 : Int32) (S : qSt) : Option (Int32 × qSt) := ob2 (F8_digit t1 9 S) fun r12 S13 => B8_readStreet_163 n v2 v3 v4 r12 S13
set_option maxRecDepth 100000 in
set_option maxHeartbeats 4000000 in
theorem W8_readStreet_158 {r : Int32} {S2 : qSt} (C : qC g cX8_readStreet RX8 7 p s m meth c) (hr : meth.sig.returnType = (some .boolean)) (n : Nat) (v2 : Int32) (v3 : Int32) (v4 : Int32) (t1 : Int32) (S : qSt) (h : B8_readStreet_158 n v2 v3 v4 t1 S = some (r, S2)) : qR g NL qT 7 p l e rmX8_readStreet s m args below meth c 0 0 (MQ below (qQi g NL qT (qmem g S2) r) args s 0 0 (qA g)) (qmem g S) 158 [(0, .ref (qa g 111)), (2, .int v2), (3, .int v3), (4, .int v4)] [.int t1, .ref (qa g 111)] := by
  unfold B8_readStreet_158 at h
  refine q_bipush (v := 9) C dX8_readStreet_158 (by decide) ?_
  obtain ⟨r12, S13, hc11, h⟩ := ob2_e h
  refine q_callVi0 C ltp_111 (qmem_o kd_111 (Nat.le_of_ble_eq_true rfl)) rfl rfl (kX8_digit t1 9 S hc11) lm8_110 rfl (rest := []) rfl (Nat.le_of_ble_eq_true rfl) dX8_readStreet_160 ⟨rfl, rfl, Nat.le_of_ble_eq_true rfl, Nat.le_of_ble_eq_true rfl, Nat.le_of_ble_eq_true rfl, Nat.le_of_ble_eq_true rfl⟩ ?_
  exact W8_readStreet_163 C hr n v2 v3 v4 r12 S13 h
def B8_readStreet_131 (n : Nat) (v2 : Int32) (v3 : Int32) (t0 : Int32) (S : qSt) : Option (Int32 × qSt) := if ¬ t0 = (-999) then (if ¬ t0 = 0 then (B8_readStreet_158 n v2 v3 t0 0 S) else (B8_readStreet_158 n v2 v3 t0 1 S)) else (B8_readStreet_163 n v2 v3 t0 (-999) S)
set_option maxRecDepth 100000 in
set_option maxHeartbeats 4000000 in
theorem W8_readStreet_131 {r : Int32} {S2 : qSt} (C : qC g cX8_readStreet RX8 7 p s m meth c) (hr : meth.sig.returnType = (some .boolean)) (n : Nat) (v2 : Int32) (v3 : Int32) (t0 : Int32) (S : qSt) (h : B8_readStreet_131 n v2 v3 t0 S = some (r, S2)) : qR g NL qT 7 p l e rmX8_readStreet s m args below meth c 0 0 (MQ below (qQi g NL qT (qmem g S2) r) args s 0 0 (qA g)) (qmem g S) 131 [(0, .ref (qa g 111)), (2, .int v2), (3, .int v3)] [.int t0] := by
  unfold B8_readStreet_131 at h
  refine q_istore C (lv' := [(4, .int t0), (0, .ref (qa g 111)), (2, .int v2), (3, .int v3)]) dX8_readStreet_131 (by decide) rfl ?_
  refine q_norm [1, 2, 3, 0] rfl ?_
  refine q_iload C 3 dX8_readStreet_133 rfl ?_
  refine q_sipush (v := (-999)) C dX8_readStreet_135 (by decide) ?_
  refine q_icmp_ne (tgt := 147) C h dX8_readStreet_138 (by decide) (fun h => ?_) (fun h => ?_)
  · refine q_aload_n C 0 dX8_readStreet_147 rfl rfl ?_
    refine q_iload C 3 dX8_readStreet_148 rfl ?_
    refine q_if_ne (tgt := 157) C h dX8_readStreet_150 (by decide) (fun h => ?_) (fun h => ?_)
    · refine q_iconst (v := 0) C dX8_readStreet_157 (by decide) ?_
      exact W8_readStreet_158 C hr n v2 v3 t0 0 S h
    · refine q_iconst (v := 1) C dX8_readStreet_153 (by decide) ?_
      refine q_goto (tgt := 158) C dX8_readStreet_154 (by decide) ?_
      exact W8_readStreet_158 C hr n v2 v3 t0 1 S h
  · refine q_sipush (v := (-999)) C dX8_readStreet_141 (by decide) ?_
    refine q_goto (tgt := 163) C dX8_readStreet_144 (by decide) ?_
    exact W8_readStreet_163 C hr n v2 v3 t0 (-999) S h
def B8_readStreet_111 (n : Nat) (v2 : Int32) (v3 : Int32) (S : qSt) : Option (Int32 × qSt) := if ¬ v3 = (-999) then (ob2 (F8_digit 0 9 S) fun r9 S10 => B8_readStreet_131 n v2 v3 r9 S10) else (B8_readStreet_131 n v2 v3 (-999) S)
set_option maxRecDepth 100000 in
set_option maxHeartbeats 4000000 in
theorem W8_readStreet_111 {r : Int32} {S2 : qSt} (C : qC g cX8_readStreet RX8 7 p s m meth c) (hr : meth.sig.returnType = (some .boolean)) (n : Nat) (v2 : Int32) (v3 : Int32) (S : qSt) (h : B8_readStreet_111 n v2 v3 S = some (r, S2)) : qR g NL qT 7 p l e rmX8_readStreet s m args below meth c 0 0 (MQ below (qQi g NL qT (qmem g S2) r) args s 0 0 (qA g)) (qmem g S) 111 [(0, .ref (qa g 111)), (2, .int v2), (3, .int v3)] [] := by
  unfold B8_readStreet_111 at h
  refine q_iload_n C 2 dX8_readStreet_111 rfl rfl ?_
  refine q_sipush (v := (-999)) C dX8_readStreet_112 (by decide) ?_
  refine q_icmp_ne (tgt := 124) C h dX8_readStreet_115 (by decide) (fun h => ?_) (fun h => ?_)
  · refine q_aload_n C 0 dX8_readStreet_124 rfl rfl ?_
    refine q_iconst (v := 0) C dX8_readStreet_125 (by decide) ?_
    refine q_bipush (v := 9) C dX8_readStreet_126 (by decide) ?_
    obtain ⟨r9, S10, hc8, h⟩ := ob2_e h
    refine q_callVi0 C ltp_111 (qmem_o kd_111 (Nat.le_of_ble_eq_true rfl)) rfl rfl (kX8_digit 0 9 S hc8) lm8_110 rfl (rest := []) rfl (Nat.le_of_ble_eq_true rfl) dX8_readStreet_128 ⟨rfl, rfl, Nat.le_of_ble_eq_true rfl, Nat.le_of_ble_eq_true rfl, Nat.le_of_ble_eq_true rfl, Nat.le_of_ble_eq_true rfl⟩ ?_
    exact W8_readStreet_131 C hr n v2 v3 r9 S10 h
  · refine q_sipush (v := (-999)) C dX8_readStreet_118 (by decide) ?_
    refine q_goto (tgt := 131) C dX8_readStreet_121 (by decide) ?_
    exact W8_readStreet_131 C hr n v2 v3 (-999) S h
def B8_readStreet_97 (n : Nat) (v2 : Int32) (S : qSt) : Option (Int32 × qSt) := obs (qup S 111 3 ((S 111 3) - 1)) fun S21 => B8_readStreet_111 n v2 (-999) S21
set_option maxRecDepth 100000 in
set_option maxHeartbeats 4000000 in
theorem W8_readStreet_97 {r : Int32} {S2 : qSt} (C : qC g cX8_readStreet RX8 7 p s m meth c) (hr : meth.sig.returnType = (some .boolean)) (n : Nat) (v2 : Int32) (S : qSt) (h : B8_readStreet_97 n v2 S = some (r, S2)) : qR g NL qT 7 p l e rmX8_readStreet s m args below meth c 0 0 (MQ below (qQi g NL qT (qmem g S2) r) args s 0 0 (qA g)) (qmem g S) 97 [(0, .ref (qa g 111)), (2, .int v2)] [] := by
  unfold B8_readStreet_97 at h
  refine q_aload_n C 0 dX8_readStreet_97 rfl rfl ?_
  refine q_dup C dX8_readStreet_98 rfl ?_
  refine s_geti C lf8_107 ltp_111 kd_111 dX8_readStreet_99 ?_
  refine q_iconst (v := 1) C dX8_readStreet_102 (by decide) ?_
  refine q_isub C dX8_readStreet_103 ?_
  obtain ⟨S21, hS21, h⟩ := obs_e h
  refine s_puti C lf8_107 ltp_111 kd_111 dX8_readStreet_104 ?_
  rw [← hS21]
  refine q_sipush (v := (-999)) C dX8_readStreet_107 (by decide) ?_
  refine q_istore_n C (lv' := [(3, .int (-999)), (0, .ref (qa g 111)), (2, .int v2)]) dX8_readStreet_110 rfl (by decide) rfl ?_
  refine q_norm [1, 2, 0] rfl ?_
  exact W8_readStreet_111 C hr n v2 (-999) S21 h
def B8_readStreet_52 (n : Nat) (v1 : Int32) (v2 : Int32) (S : qSt) : Option (Int32 × qSt) := if ¬ v2 = (-999) then (ob2 (F8_digit 0 (v1 - 1) S) fun r6 S7 => if r6 = (-999) then (B8_readStreet_111 n v2 r6 S7) else (if r6 = v2 then (B8_readStreet_97 n v2 S7) else (ob1 (F8_joined n 113 v2 r6 S7) fun r23 => if r23 = (-999) then (B8_readStreet_111 n v2 r6 S7) else (B8_readStreet_97 n v2 S7)))) else (some (0, S))
set_option maxRecDepth 100000 in
set_option maxHeartbeats 4000000 in
theorem W8_readStreet_52 {r : Int32} {S2 : qSt} (C : qC g cX8_readStreet RX8 7 p s m meth c) (hr : meth.sig.returnType = (some .boolean)) (n : Nat) (v1 : Int32) (v2 : Int32) (S : qSt) (h : B8_readStreet_52 n v1 v2 S = some (r, S2)) : qR g NL qT 7 p l e rmX8_readStreet s m args below meth c 0 0 (MQ below (qQi g NL qT (qmem g S2) r) args s 0 0 (qA g)) (qmem g S) 52 [(0, .ref (qa g 111)), (1, .int v1), (2, .int v2)] [] := by
  unfold B8_readStreet_52 at h
  refine q_iload_n C 2 dX8_readStreet_52 rfl rfl ?_
  refine q_sipush (v := (-999)) C dX8_readStreet_53 (by decide) ?_
  refine q_icmp_ne (tgt := 61) C h dX8_readStreet_56 (by decide) (fun h => ?_) (fun h => ?_)
  · refine q_aload_n C 0 dX8_readStreet_61 rfl rfl ?_
    refine q_iconst (v := 0) C dX8_readStreet_62 (by decide) ?_
    refine q_iload_n C 1 dX8_readStreet_63 rfl rfl ?_
    refine q_iconst (v := 1) C dX8_readStreet_64 (by decide) ?_
    refine q_isub C dX8_readStreet_65 ?_
    obtain ⟨r6, S7, hc5, h⟩ := ob2_e h
    refine q_callVi0 C ltp_111 (qmem_o kd_111 (Nat.le_of_ble_eq_true rfl)) rfl rfl (kX8_digit 0 (v1 - 1) S hc5) lm8_110 rfl (rest := []) rfl (Nat.le_of_ble_eq_true rfl) dX8_readStreet_66 ⟨rfl, rfl, Nat.le_of_ble_eq_true rfl, Nat.le_of_ble_eq_true rfl, Nat.le_of_ble_eq_true rfl, Nat.le_of_ble_eq_true rfl⟩ ?_
    refine q_istore_n C (lv' := [(3, .int r6), (0, .ref (qa g 111)), (1, .int v1), (2, .int v2)]) dX8_readStreet_69 rfl (by decide) rfl ?_
    refine q_norm [1, 2, 3, 0] rfl ?_
    refine q_iload_n C 3 dX8_readStreet_70 rfl rfl ?_
    refine q_sipush (v := (-999)) C dX8_readStreet_71 (by decide) ?_
    refine q_icmp_eq (tgt := 111) C h dX8_readStreet_74 (by decide) (fun h => ?_) (fun h => ?_)
    · refine q_norm [0, 2, 3] rfl ?_
      exact W8_readStreet_111 C hr n v2 r6 S7 h
    · refine q_iload_n C 3 dX8_readStreet_77 rfl rfl ?_
      refine q_iload_n C 2 dX8_readStreet_78 rfl rfl ?_
      refine q_icmp_eq (tgt := 97) C h dX8_readStreet_79 (by decide) (fun h => ?_) (fun h => ?_)
      · refine q_norm [0, 2] rfl ?_
        exact W8_readStreet_97 C hr n v2 S7 h
      · refine q_aload_n C 0 dX8_readStreet_82 rfl rfl ?_
        refine s_getr (a := 113) C lf8_13 ltp_111 kd_111 rfl dX8_readStreet_83 ?_
        refine q_iload_n C 2 dX8_readStreet_86 rfl rfl ?_
        refine q_iload_n C 3 dX8_readStreet_87 rfl rfl ?_
        obtain ⟨r23, hc22, h⟩ := ob1_e h
        refine q_callSi0 C (kX8_joined n 113 (tyI_113) v2 r6 S7 hc22) lm8_118 rfl (rest := []) rfl (Nat.le_of_ble_eq_true rfl) dX8_readStreet_88 ⟨rfl, rfl, Nat.le_of_ble_eq_true rfl, Nat.le_of_ble_eq_true rfl, Nat.le_of_ble_eq_true rfl, Nat.le_of_ble_eq_true rfl⟩ ?_
        refine q_sipush (v := (-999)) C dX8_readStreet_91 (by decide) ?_
        refine q_icmp_eq (tgt := 111) C h dX8_readStreet_94 (by decide) (fun h => ?_) (fun h => ?_)
        · refine q_norm [0, 2, 3] rfl ?_
          exact W8_readStreet_111 C hr n v2 r6 S7 h
        · refine q_norm [0, 2] rfl ?_
          exact W8_readStreet_97 C hr n v2 S7 h
  · refine q_iconst (v := 0) C dX8_readStreet_59 (by decide) ?_
    obtain ⟨rfl, rfl⟩ := Prod.mk.inj (Option.some.inj h)
    exact q_zret C hr (by decide) (Nat.le_refl 0) (Nat.le_refl 0) dX8_readStreet_60
def F8_readStreet (n : Nat) (S : qSt) : Option (Int32 × qSt) := obs (S 113 (0 : Int32).toNatClampNeg) fun x1 => ob2 (F8_digit 0 (x1 - 1) S) fun r3 S4 => if r3 = (-999) then (B8_readStreet_52 n x1 r3 S4) else (ob1 (F8_streetsAt n 113 r3 0 S4) fun r25 => if ¬ r25 = (x1 - 1) then (B8_readStreet_52 n x1 r3 S4) else (obs (qup S4 111 3 ((S4 111 3) - 1)) fun S26 => B8_readStreet_52 n x1 (-999) S26))
set_option maxRecDepth 100000 in
set_option maxHeartbeats 4000000 in
theorem kX8_readStreet {l : Launch} {g : qG} (n : Nat) (S : qSt) {r : Int32} {S2 : qSt} (h : F8_readStreet n S = some (r, S2)) : Met l yX8_readStreet [.code yX8_readStreet cX8_readStreet 7 (some .boolean)] rmX8_readStreet (qPc g NL qT (qmem g S) [.ref (qa g 111)]) (qQi g NL qT (qmem g S2) r) 0 0 (qA g) := by
  refine q_met (by decide) (Nat.le_of_ble_eq_true rfl) (fun p e s m args below meth c C hr _ => ?_)
  have C : qC g cX8_readStreet RX8 7 p s m meth c := C
  show qR g NL qT 7 p l e rmX8_readStreet s m args below meth c 0 0 (MQ below (qQi g NL qT (qmem g S2) r) args s 0 0 (qA g)) (qmem g S) 0 [(0, .ref (qa g 111))] []
  unfold F8_readStreet at h
  refine q_aload_n C 0 dX8_readStreet_0 rfl rfl ?_
  refine s_getr (a := 113) C lf8_13 ltp_111 kd_111 rfl dX8_readStreet_1 ?_
  refine q_iconst (v := 0) C dX8_readStreet_4 (by decide) ?_
  refine s_iald C ltp_113 kd_113 (by decide) dX8_readStreet_5 ?_
  obtain ⟨x1, hx1, h⟩ := obs_e h
  rw [← hx1]
  refine q_istore_n C (lv' := [(1, .int x1), (0, .ref (qa g 111))]) dX8_readStreet_6 rfl (by decide) rfl ?_
  refine q_norm [1, 0] rfl ?_
  refine q_aload_n C 0 dX8_readStreet_7 rfl rfl ?_
  refine q_iconst (v := 0) C dX8_readStreet_8 (by decide) ?_
  refine q_iload_n C 1 dX8_readStreet_9 rfl rfl ?_
  refine q_iconst (v := 1) C dX8_readStreet_10 (by decide) ?_
  refine q_isub C dX8_readStreet_11 ?_
  obtain ⟨r3, S4, hc2, h⟩ := ob2_e h
  refine q_callVi0 C ltp_111 (qmem_o kd_111 (Nat.le_of_ble_eq_true rfl)) rfl rfl (kX8_digit 0 (x1 - 1) S hc2) lm8_110 rfl (rest := []) rfl (Nat.le_of_ble_eq_true rfl) dX8_readStreet_12 ⟨rfl, rfl, Nat.le_of_ble_eq_true rfl, Nat.le_of_ble_eq_true rfl, Nat.le_of_ble_eq_true rfl, Nat.le_of_ble_eq_true rfl⟩ ?_
  refine q_istore_n C (lv' := [(2, .int r3), (0, .ref (qa g 111)), (1, .int x1)]) dX8_readStreet_15 rfl (by decide) rfl ?_
  refine q_norm [1, 2, 0] rfl ?_
  refine q_iload_n C 2 dX8_readStreet_16 rfl rfl ?_
  refine q_sipush (v := (-999)) C dX8_readStreet_17 (by decide) ?_
  refine q_icmp_eq (tgt := 52) C h dX8_readStreet_20 (by decide) (fun h => ?_) (fun h => ?_)
  · exact W8_readStreet_52 C hr n x1 r3 S4 h
  · refine q_aload_n C 0 dX8_readStreet_23 rfl rfl ?_
    refine s_getr (a := 113) C lf8_13 ltp_111 kd_111 rfl dX8_readStreet_24 ?_
    refine q_iload_n C 2 dX8_readStreet_27 rfl rfl ?_
    refine q_iconst (v := 0) C dX8_readStreet_28 (by decide) ?_
    obtain ⟨r25, hc24, h⟩ := ob1_e h
    refine q_callSi0 C (kX8_streetsAt n 113 (tyI_113) r3 0 S4 hc24) lm8_114 rfl (rest := []) rfl (Nat.le_of_ble_eq_true rfl) dX8_readStreet_29 ⟨rfl, rfl, Nat.le_of_ble_eq_true rfl, Nat.le_of_ble_eq_true rfl, Nat.le_of_ble_eq_true rfl, Nat.le_of_ble_eq_true rfl⟩ ?_
    refine q_iload_n C 1 dX8_readStreet_32 rfl rfl ?_
    refine q_iconst (v := 1) C dX8_readStreet_33 (by decide) ?_
    refine q_isub C dX8_readStreet_34 ?_
    refine q_icmp_ne (tgt := 52) C h dX8_readStreet_35 (by decide) (fun h => ?_) (fun h => ?_)
    · exact W8_readStreet_52 C hr n x1 r3 S4 h
    · refine q_aload_n C 0 dX8_readStreet_38 rfl rfl ?_
      refine q_dup C dX8_readStreet_39 rfl ?_
      refine s_geti C lf8_107 ltp_111 kd_111 dX8_readStreet_40 ?_
      refine q_iconst (v := 1) C dX8_readStreet_43 (by decide) ?_
      refine q_isub C dX8_readStreet_44 ?_
      obtain ⟨S26, hS26, h⟩ := obs_e h
      refine s_puti C lf8_107 ltp_111 kd_111 dX8_readStreet_45 ?_
      rw [← hS26]
      refine q_sipush (v := (-999)) C dX8_readStreet_48 (by decide) ?_
      refine q_istore_n C (lv' := [(2, .int (-999)), (0, .ref (qa g 111)), (1, .int x1)]) dX8_readStreet_51 rfl (by decide) rfl ?_
      refine q_norm [1, 2, 0] rfl ?_
      exact W8_readStreet_52 C hr n x1 (-999) S26 h
/-! ClosedStreetsModel.readTown -/
abbrev rmX8_readTown : Room := { frames := 3, cells := 0, slots := 0, locals := 120 }
def B8_readTown_189 (n : Nat) (K127 : Int32 → Int32 → qSt → Option (Int32 × qSt)) (v1 : Int32) (t0 : Int32) (S : qSt) : Option (Int32 × qSt) := if t0 = 0 then (K127 v1 t0 S) else (obs (qup S 111 3 ((S 111 3) + 1)) fun S19 => ob2 (F8_readStreet n S19) fun r21 S22 => K127 v1 r21 S22)
set_option maxRecDepth 100000 in
set_option maxHeartbeats 4000000 in
theorem W8_readTown_189 {r : Int32} {S2 : qSt} (C : qC g cX8_readTown RX8 5 p s m meth c) (hr : meth.sig.returnType = (some .boolean)) (n : Nat) (K127 : Int32 → Int32 → qSt → Option (Int32 × qSt)) (hK127 : ∀ (v1 : Int32) (v4 : Int32) (S : qSt), K127 v1 v4 S = some (r, S2) → qR g NL qT 5 p l e rmX8_readTown s m args below meth c 0 0 (MQ below (qQi g NL qT (qmem g S2) r) args s 0 0 (qA g)) (qmem g S) 127 [(0, .ref (qa g 111)), (1, .int v1), (4, .int v4)] []) (v1 : Int32) (t0 : Int32) (S : qSt) (h : B8_readTown_189 n K127 v1 t0 S = some (r, S2)) : qR g NL qT 5 p l e rmX8_readTown s m args below meth c 0 0 (MQ below (qQi g NL qT (qmem g S2) r) args s 0 0 (qA g)) (qmem g S) 189 [(0, .ref (qa g 111)), (1, .int v1)] [.int t0] := by
  unfold B8_readTown_189 at h
  refine q_istore C (lv' := [(4, .int t0), (0, .ref (qa g 111)), (1, .int v1)]) dX8_readTown_189 (by decide) rfl ?_
  refine q_norm [1, 2, 0] rfl ?_
  refine q_iload C 2 dX8_readTown_191 rfl ?_
  refine q_if_eq (tgt := 127) C h dX8_readTown_193 (by decide) (fun h => ?_) (fun h => ?_)
  · exact hK127 v1 t0 S h
  · refine q_aload_n C 0 dX8_readTown_196 rfl rfl ?_
    refine q_dup C dX8_readTown_197 rfl ?_
    refine s_geti C lf8_107 ltp_111 kd_111 dX8_readTown_198 ?_
    refine q_iconst (v := 1) C dX8_readTown_201 (by decide) ?_
    refine q_iadd C dX8_readTown_202 ?_
    obtain ⟨S19, hS19, h⟩ := obs_e h
    refine s_puti C lf8_107 ltp_111 kd_111 dX8_readTown_203 ?_
    rw [← hS19]
    refine q_aload_n C 0 dX8_readTown_206 rfl rfl ?_
    obtain ⟨r21, S22, hc20, h⟩ := ob2_e h
    refine q_callVi0 C ltp_111 (qmem_o kd_111 (Nat.le_of_ble_eq_true rfl)) rfl rfl (kX8_readStreet n S19 hc20) lm8_126 rfl (rest := []) rfl (Nat.le_of_ble_eq_true rfl) dX8_readTown_207 ⟨rfl, rfl, Nat.le_of_ble_eq_true rfl, Nat.le_of_ble_eq_true rfl, Nat.le_of_ble_eq_true rfl, Nat.le_of_ble_eq_true rfl⟩ ?_
    refine q_istore C (lv' := [(4, .int r21), (0, .ref (qa g 111)), (1, .int v1)]) dX8_readTown_210 (by decide) rfl ?_
    refine q_norm [1, 2, 0] rfl ?_
    refine q_goto (tgt := 127) C dX8_readTown_212 (by decide) ?_
    exact hK127 v1 r21 S22 h
def B8_readTown_188 (n : Nat) (K127 : Int32 → Int32 → qSt → Option (Int32 × qSt)) (v1 : Int32) (S : qSt) : Option (Int32 × qSt) := B8_readTown_189 n K127 v1 0 S
set_option maxRecDepth 100000 in
set_option maxHeartbeats 4000000 in
theorem W8_readTown_188 {r : Int32} {S2 : qSt} (C : qC g cX8_readTown RX8 5 p s m meth c) (hr : meth.sig.returnType = (some .boolean)) (n : Nat) (K127 : Int32 → Int32 → qSt → Option (Int32 × qSt)) (hK127 : ∀ (v1 : Int32) (v4 : Int32) (S : qSt), K127 v1 v4 S = some (r, S2) → qR g NL qT 5 p l e rmX8_readTown s m args below meth c 0 0 (MQ below (qQi g NL qT (qmem g S2) r) args s 0 0 (qA g)) (qmem g S) 127 [(0, .ref (qa g 111)), (1, .int v1), (4, .int v4)] []) (v1 : Int32) (S : qSt) (h : B8_readTown_188 n K127 v1 S = some (r, S2)) : qR g NL qT 5 p l e rmX8_readTown s m args below meth c 0 0 (MQ below (qQi g NL qT (qmem g S2) r) args s 0 0 (qA g)) (qmem g S) 188 [(0, .ref (qa g 111)), (1, .int v1)] [] := by
  unfold B8_readTown_188 at h
  refine q_iconst (v := 0) C dX8_readTown_188 (by decide) ?_
  exact W8_readTown_189 C hr n K127 hK127 v1 0 S h
def B8_readTown_127 (n : Nat) : Nat → Int32 → Int32 → qSt → Option (Int32 × qSt)
  | 0, _, _, _ => none
  | n9 + 1, v1, v4, S => if v4 = 0 then (if v4 &&& 1 = v4 then some (v4, S) else none) else (if (S 111 2) ≤ (S 111 3) then (if v4 &&& 1 = v4 then some (v4, S) else none) else (if qin (S 111 3) 140 = true then if ¬ (S 112 (S 111 3).toNatClampNeg) = 115 then (B8_readTown_188 n (B8_readTown_127 n n9) v1 S) else (if 20 ≤ (S 113 (1 : Int32).toNatClampNeg) then (B8_readTown_188 n (B8_readTown_127 n n9) v1 S) else (if (v1 * (v1 - 1)) ≤ (2 * (S 113 (1 : Int32).toNatClampNeg)) then (B8_readTown_188 n (B8_readTown_127 n n9) v1 S) else (B8_readTown_189 n (B8_readTown_127 n n9) v1 1 S))) else none))
set_option maxRecDepth 100000 in
set_option maxHeartbeats 4000000 in
theorem W8_readTown_127 {r : Int32} {S2 : qSt} (C : qC g cX8_readTown RX8 5 p s m meth c) (hr : meth.sig.returnType = (some .boolean)) (n : Nat) : ∀ (n9 : Nat) (v1 : Int32) (v4 : Int32) (S : qSt), B8_readTown_127 n n9 v1 v4 S = some (r, S2) → qR g NL qT 5 p l e rmX8_readTown s m args below meth c 0 0 (MQ below (qQi g NL qT (qmem g S2) r) args s 0 0 (qA g)) (qmem g S) 127 [(0, .ref (qa g 111)), (1, .int v1), (4, .int v4)] [] := by
  intro n9
  induction n9 with
  | zero =>
    intro v1 v4 S h
    have h9 : (none : Option (Int32 × qSt)) = some (r, S2) := h
    cases h9
  | succ n9 ih =>
    intro v1 v4 S h
    rw [B8_readTown_127] at h
    refine q_iload C 2 dX8_readTown_127 rfl ?_
    refine q_if_eq (tgt := 215) C h dX8_readTown_129 (by decide) (fun h => ?_) (fun h => ?_)
    · refine q_iload C 2 dX8_readTown_215 rfl ?_
      obtain ⟨hz16, h⟩ := q_ifp h
      obtain ⟨rfl, rfl⟩ := Prod.mk.inj (Option.some.inj h)
      exact q_zret C hr hz16 (Nat.le_refl 0) (Nat.le_refl 0) dX8_readTown_217
    · refine q_aload_n C 0 dX8_readTown_132 rfl rfl ?_
      refine s_geti C lf8_107 ltp_111 kd_111 dX8_readTown_133 ?_
      refine q_aload_n C 0 dX8_readTown_136 rfl rfl ?_
      refine s_geti C lf8_100 ltp_111 kd_111 dX8_readTown_137 ?_
      refine q_icmp_ge (tgt := 215) C h dX8_readTown_140 (by decide) (fun h => ?_) (fun h => ?_)
      · refine q_iload C 2 dX8_readTown_215 rfl ?_
        obtain ⟨hz17, h⟩ := q_ifp h
        obtain ⟨rfl, rfl⟩ := Prod.mk.inj (Option.some.inj h)
        exact q_zret C hr hz17 (Nat.le_refl 0) (Nat.le_refl 0) dX8_readTown_217
      · refine q_aload_n C 0 dX8_readTown_143 rfl rfl ?_
        refine s_getr (a := 112) C lf8_7 ltp_111 kd_111 rfl dX8_readTown_144 ?_
        refine q_aload_n C 0 dX8_readTown_147 rfl rfl ?_
        refine s_geti C lf8_107 ltp_111 kd_111 dX8_readTown_148 ?_
        obtain ⟨hb18, h⟩ := q_if h
        refine s_iald C ltp_112 kd_112 hb18 dX8_readTown_151 ?_
        refine q_bipush (v := 115) C dX8_readTown_152 (by decide) ?_
        refine q_icmp_ne (tgt := 188) C h dX8_readTown_154 (by decide) (fun h => ?_) (fun h => ?_)
        · refine q_norm [0, 1] rfl ?_
          exact W8_readTown_188 C hr n (B8_readTown_127 n n9) ih v1 S h
        · refine q_aload_n C 0 dX8_readTown_157 rfl rfl ?_
          refine s_getr (a := 113) C lf8_13 ltp_111 kd_111 rfl dX8_readTown_158 ?_
          refine q_iconst (v := 1) C dX8_readTown_161 (by decide) ?_
          refine s_iald C ltp_113 kd_113 (by decide) dX8_readTown_162 ?_
          refine q_bipush (v := 20) C dX8_readTown_163 (by decide) ?_
          refine q_icmp_ge (tgt := 188) C h dX8_readTown_165 (by decide) (fun h => ?_) (fun h => ?_)
          · refine q_norm [0, 1] rfl ?_
            exact W8_readTown_188 C hr n (B8_readTown_127 n n9) ih v1 S h
          · refine q_iconst (v := 2) C dX8_readTown_168 (by decide) ?_
            refine q_aload_n C 0 dX8_readTown_169 rfl rfl ?_
            refine s_getr (a := 113) C lf8_13 ltp_111 kd_111 rfl dX8_readTown_170 ?_
            refine q_iconst (v := 1) C dX8_readTown_173 (by decide) ?_
            refine s_iald C ltp_113 kd_113 (by decide) dX8_readTown_174 ?_
            refine q_imul C dX8_readTown_175 ?_
            refine q_iload_n C 1 dX8_readTown_176 rfl rfl ?_
            refine q_iload_n C 1 dX8_readTown_177 rfl rfl ?_
            refine q_iconst (v := 1) C dX8_readTown_178 (by decide) ?_
            refine q_isub C dX8_readTown_179 ?_
            refine q_imul C dX8_readTown_180 ?_
            refine q_icmp_ge (tgt := 188) C h dX8_readTown_181 (by decide) (fun h => ?_) (fun h => ?_)
            · refine q_norm [0, 1] rfl ?_
              exact W8_readTown_188 C hr n (B8_readTown_127 n n9) ih v1 S h
            · refine q_iconst (v := 1) C dX8_readTown_184 (by decide) ?_
              refine q_goto (tgt := 189) C dX8_readTown_185 (by decide) ?_
              refine q_norm [0, 1] rfl ?_
              exact W8_readTown_189 C hr n (B8_readTown_127 n n9) ih v1 1 S h
def B8_readTown_125 (n : Nat) (v1 : Int32) (t0 : Int32) (S : qSt) : Option (Int32 × qSt) := B8_readTown_127 n n v1 t0 S
set_option maxRecDepth 100000 in
set_option maxHeartbeats 4000000 in
theorem W8_readTown_125 {r : Int32} {S2 : qSt} (C : qC g cX8_readTown RX8 5 p s m meth c) (hr : meth.sig.returnType = (some .boolean)) (n : Nat) (v1 : Int32) (t0 : Int32) (S : qSt) (h : B8_readTown_125 n v1 t0 S = some (r, S2)) : qR g NL qT 5 p l e rmX8_readTown s m args below meth c 0 0 (MQ below (qQi g NL qT (qmem g S2) r) args s 0 0 (qA g)) (qmem g S) 125 [(0, .ref (qa g 111)), (1, .int v1)] [.int t0] := by
  unfold B8_readTown_125 at h
  refine q_istore C (lv' := [(4, .int t0), (0, .ref (qa g 111)), (1, .int v1)]) dX8_readTown_125 (by decide) rfl ?_
  refine q_norm [1, 2, 0] rfl ?_
  exact W8_readTown_127 C hr n n v1 t0 S h
def F8_readTown (n : Nat) (S : qSt) : Option (Int32 × qSt) := obs (qup S 111 3 0) fun S1 => if (S1 111 2) = 0 then (some (0, S1)) else (if (S1 112 (0 : Int32).toNatClampNeg) = 84 then (obs (qup S1 111 3 1) fun S2 => ob2 (F8_digit 2 9 S2) fun r4 S5 => if ¬ r4 = (-999) then (ob1 (F8_clear n 113 r4 S5) fun S7 => ob2 (F8_digit 0 (r4 - 1) S7) fun r9 S10 => if ¬ r9 = (-999) then (ob2 (F8_digit 0 (r4 - 1) S10) fun r12 S13 => if ¬ r12 = r9 then (obs (qup S13 113 (2 : Int32).toNatClampNeg r9) fun S14 => obs (qup S14 113 (3 : Int32).toNatClampNeg r12) fun S15 => if r12 = (-999) then (B8_readTown_125 n r4 0 S15) else (B8_readTown_125 n r4 1 S15)) else (obs (qup S13 111 3 ((S13 111 3) - 1)) fun S23 => some (0, S23))) else (some (0, S10))) else (some (0, S5))) else (some (0, S1)))
set_option maxRecDepth 100000 in
set_option maxHeartbeats 4000000 in
theorem kX8_readTown {l : Launch} {g : qG} (n : Nat) (S : qSt) {r : Int32} {S2 : qSt} (h : F8_readTown n S = some (r, S2)) : Met l yX8_readTown [.code yX8_readTown cX8_readTown 5 (some .boolean)] rmX8_readTown (qPc g NL qT (qmem g S) [.ref (qa g 111)]) (qQi g NL qT (qmem g S2) r) 0 0 (qA g) := by
  refine q_met (by decide) (Nat.le_of_ble_eq_true rfl) (fun p e s m args below meth c C hr _ => ?_)
  have C : qC g cX8_readTown RX8 5 p s m meth c := C
  show qR g NL qT 5 p l e rmX8_readTown s m args below meth c 0 0 (MQ below (qQi g NL qT (qmem g S2) r) args s 0 0 (qA g)) (qmem g S) 0 [(0, .ref (qa g 111))] []
  unfold F8_readTown at h
  refine q_aload_n C 0 dX8_readTown_0 rfl rfl ?_
  refine q_iconst (v := 0) C dX8_readTown_1 (by decide) ?_
  obtain ⟨S1, hS1, h⟩ := obs_e h
  refine s_puti C lf8_107 ltp_111 kd_111 dX8_readTown_2 ?_
  rw [← hS1]
  refine q_aload_n C 0 dX8_readTown_5 rfl rfl ?_
  refine s_geti C lf8_100 ltp_111 kd_111 dX8_readTown_6 ?_
  refine q_if_eq (tgt := 23) C h dX8_readTown_9 (by decide) (fun h => ?_) (fun h => ?_)
  · refine q_iconst (v := 0) C dX8_readTown_23 (by decide) ?_
    obtain ⟨rfl, rfl⟩ := Prod.mk.inj (Option.some.inj h)
    exact q_zret C hr (by decide) (Nat.le_refl 0) (Nat.le_refl 0) dX8_readTown_24
  · refine q_aload_n C 0 dX8_readTown_12 rfl rfl ?_
    refine s_getr (a := 112) C lf8_7 ltp_111 kd_111 rfl dX8_readTown_13 ?_
    refine q_iconst (v := 0) C dX8_readTown_16 (by decide) ?_
    refine s_iald C ltp_112 kd_112 (by decide) dX8_readTown_17 ?_
    refine q_bipush (v := 84) C dX8_readTown_18 (by decide) ?_
    refine q_icmp_eq (tgt := 25) C h dX8_readTown_20 (by decide) (fun h => ?_) (fun h => ?_)
    · refine q_aload_n C 0 dX8_readTown_25 rfl rfl ?_
      refine q_iconst (v := 1) C dX8_readTown_26 (by decide) ?_
      obtain ⟨S2, hS2, h⟩ := obs_e h
      refine s_puti C lf8_107 ltp_111 kd_111 dX8_readTown_27 ?_
      rw [← hS2]
      refine q_aload_n C 0 dX8_readTown_30 rfl rfl ?_
      refine q_iconst (v := 2) C dX8_readTown_31 (by decide) ?_
      refine q_bipush (v := 9) C dX8_readTown_32 (by decide) ?_
      obtain ⟨r4, S5, hc3, h⟩ := ob2_e h
      refine q_callVi0 C ltp_111 (qmem_o kd_111 (Nat.le_of_ble_eq_true rfl)) rfl rfl (kX8_digit 2 9 S2 hc3) lm8_110 rfl (rest := []) rfl (Nat.le_of_ble_eq_true rfl) dX8_readTown_34 ⟨rfl, rfl, Nat.le_of_ble_eq_true rfl, Nat.le_of_ble_eq_true rfl, Nat.le_of_ble_eq_true rfl, Nat.le_of_ble_eq_true rfl⟩ ?_
      refine q_istore_n C (lv' := [(1, .int r4), (0, .ref (qa g 111))]) dX8_readTown_37 rfl (by decide) rfl ?_
      refine q_norm [1, 0] rfl ?_
      refine q_iload_n C 1 dX8_readTown_38 rfl rfl ?_
      refine q_sipush (v := (-999)) C dX8_readTown_39 (by decide) ?_
      refine q_icmp_ne (tgt := 47) C h dX8_readTown_42 (by decide) (fun h => ?_) (fun h => ?_)
      · refine q_aload_n C 0 dX8_readTown_47 rfl rfl ?_
        refine s_getr (a := 113) C lf8_13 ltp_111 kd_111 rfl dX8_readTown_48 ?_
        refine q_iload_n C 1 dX8_readTown_51 rfl rfl ?_
        obtain ⟨S7, hc6, h⟩ := ob1_e h
        refine q_callSv0 C (kX8_clear n 113 (tyI_113) r4 S5 hc6) lm8_53 rfl (rest := []) rfl (Nat.le_of_ble_eq_true rfl) dX8_readTown_52 ⟨rfl, rfl, Nat.le_of_ble_eq_true rfl, Nat.le_of_ble_eq_true rfl, Nat.le_of_ble_eq_true rfl, Nat.le_of_ble_eq_true rfl⟩ ?_
        refine q_aload_n C 0 dX8_readTown_55 rfl rfl ?_
        refine q_iconst (v := 0) C dX8_readTown_56 (by decide) ?_
        refine q_iload_n C 1 dX8_readTown_57 rfl rfl ?_
        refine q_iconst (v := 1) C dX8_readTown_58 (by decide) ?_
        refine q_isub C dX8_readTown_59 ?_
        obtain ⟨r9, S10, hc8, h⟩ := ob2_e h
        refine q_callVi0 C ltp_111 (qmem_o kd_111 (Nat.le_of_ble_eq_true rfl)) rfl rfl (kX8_digit 0 (r4 - 1) S7 hc8) lm8_110 rfl (rest := []) rfl (Nat.le_of_ble_eq_true rfl) dX8_readTown_60 ⟨rfl, rfl, Nat.le_of_ble_eq_true rfl, Nat.le_of_ble_eq_true rfl, Nat.le_of_ble_eq_true rfl, Nat.le_of_ble_eq_true rfl⟩ ?_
        refine q_istore_n C (lv' := [(2, .int r9), (0, .ref (qa g 111)), (1, .int r4)]) dX8_readTown_63 rfl (by decide) rfl ?_
        refine q_norm [1, 2, 0] rfl ?_
        refine q_iload_n C 2 dX8_readTown_64 rfl rfl ?_
        refine q_sipush (v := (-999)) C dX8_readTown_65 (by decide) ?_
        refine q_icmp_ne (tgt := 73) C h dX8_readTown_68 (by decide) (fun h => ?_) (fun h => ?_)
        · refine q_aload_n C 0 dX8_readTown_73 rfl rfl ?_
          refine q_iconst (v := 0) C dX8_readTown_74 (by decide) ?_
          refine q_iload_n C 1 dX8_readTown_75 rfl rfl ?_
          refine q_iconst (v := 1) C dX8_readTown_76 (by decide) ?_
          refine q_isub C dX8_readTown_77 ?_
          obtain ⟨r12, S13, hc11, h⟩ := ob2_e h
          refine q_callVi0 C ltp_111 (qmem_o kd_111 (Nat.le_of_ble_eq_true rfl)) rfl rfl (kX8_digit 0 (r4 - 1) S10 hc11) lm8_110 rfl (rest := []) rfl (Nat.le_of_ble_eq_true rfl) dX8_readTown_78 ⟨rfl, rfl, Nat.le_of_ble_eq_true rfl, Nat.le_of_ble_eq_true rfl, Nat.le_of_ble_eq_true rfl, Nat.le_of_ble_eq_true rfl⟩ ?_
          refine q_istore_n C (lv' := [(3, .int r12), (0, .ref (qa g 111)), (1, .int r4), (2, .int r9)]) dX8_readTown_81 rfl (by decide) rfl ?_
          refine q_norm [1, 2, 3, 0] rfl ?_
          refine q_iload_n C 3 dX8_readTown_82 rfl rfl ?_
          refine q_iload_n C 2 dX8_readTown_83 rfl rfl ?_
          refine q_icmp_ne (tgt := 99) C h dX8_readTown_84 (by decide) (fun h => ?_) (fun h => ?_)
          · refine q_aload_n C 0 dX8_readTown_99 rfl rfl ?_
            refine s_getr (a := 113) C lf8_13 ltp_111 kd_111 rfl dX8_readTown_100 ?_
            refine q_iconst (v := 2) C dX8_readTown_103 (by decide) ?_
            refine q_iload_n C 2 dX8_readTown_104 rfl rfl ?_
            obtain ⟨S14, hS14, h⟩ := obs_e h
            refine s_iast C ltp_113 kd_113 (by decide) dX8_readTown_105 ?_
            rw [← hS14]
            refine q_aload_n C 0 dX8_readTown_106 rfl rfl ?_
            refine s_getr (a := 113) C lf8_13 ltp_111 kd_111 rfl dX8_readTown_107 ?_
            refine q_iconst (v := 3) C dX8_readTown_110 (by decide) ?_
            refine q_iload_n C 3 dX8_readTown_111 rfl rfl ?_
            obtain ⟨S15, hS15, h⟩ := obs_e h
            refine s_iast C ltp_113 kd_113 (by decide) dX8_readTown_112 ?_
            rw [← hS15]
            refine q_iload_n C 3 dX8_readTown_113 rfl rfl ?_
            refine q_sipush (v := (-999)) C dX8_readTown_114 (by decide) ?_
            refine q_icmp_eq (tgt := 124) C h dX8_readTown_117 (by decide) (fun h => ?_) (fun h => ?_)
            · refine q_iconst (v := 0) C dX8_readTown_124 (by decide) ?_
              refine q_norm [0, 1] rfl ?_
              exact W8_readTown_125 C hr n r4 0 S15 h
            · refine q_iconst (v := 1) C dX8_readTown_120 (by decide) ?_
              refine q_goto (tgt := 125) C dX8_readTown_121 (by decide) ?_
              refine q_norm [0, 1] rfl ?_
              exact W8_readTown_125 C hr n r4 1 S15 h
          · refine q_aload_n C 0 dX8_readTown_87 rfl rfl ?_
            refine q_dup C dX8_readTown_88 rfl ?_
            refine s_geti C lf8_107 ltp_111 kd_111 dX8_readTown_89 ?_
            refine q_iconst (v := 1) C dX8_readTown_92 (by decide) ?_
            refine q_isub C dX8_readTown_93 ?_
            obtain ⟨S23, hS23, h⟩ := obs_e h
            refine s_puti C lf8_107 ltp_111 kd_111 dX8_readTown_94 ?_
            rw [← hS23]
            refine q_iconst (v := 0) C dX8_readTown_97 (by decide) ?_
            obtain ⟨rfl, rfl⟩ := Prod.mk.inj (Option.some.inj h)
            exact q_zret C hr (by decide) (Nat.le_refl 0) (Nat.le_refl 0) dX8_readTown_98
        · refine q_iconst (v := 0) C dX8_readTown_71 (by decide) ?_
          obtain ⟨rfl, rfl⟩ := Prod.mk.inj (Option.some.inj h)
          exact q_zret C hr (by decide) (Nat.le_refl 0) (Nat.le_refl 0) dX8_readTown_72
      · refine q_iconst (v := 0) C dX8_readTown_45 (by decide) ?_
        obtain ⟨rfl, rfl⟩ := Prod.mk.inj (Option.some.inj h)
        exact q_zret C hr (by decide) (Nat.le_refl 0) (Nat.le_refl 0) dX8_readTown_46
    · refine q_iconst (v := 0) C dX8_readTown_23 (by decide) ?_
      obtain ⟨rfl, rfl⟩ := Prod.mk.inj (Option.some.inj h)
      exact q_zret C hr (by decide) (Nat.le_refl 0) (Nat.le_refl 0) dX8_readTown_24
end
