section
variable {l : Launch} {g : qG} {p : Program} {e : Env} {s : State} {m : MethodId} {args : Array Value} {below : List Frame} {meth : Method} {c : Code}
/-! ClosedStreetsModel.readWord -/
abbrev rmX8_readWord : Room := { frames := 0, cells := 0, slots := 0, locals := 0 }
def B8_readWord_72 (n : Nat) : Nat → Int32 → qSt → Option (Int32 × qSt)
  | 0, _, _ => none
  | n9 + 1, v1, S => if 5 ≤ v1 then (some (1, S)) else (if qin ((5 * (S 111 16)) + v1) 25 = true then if (S 119 ((5 * (S 111 16)) + v1).toNatClampNeg) = 0 then (some (1, S)) else (if (S 111 3) = (S 111 2) then (some (0, S)) else (if qin (S 111 3) 140 = true then if (S 112 (S 111 3).toNatClampNeg) = (S 119 ((5 * (S 111 16)) + v1).toNatClampNeg) then (obs (qup S 111 3 ((S 111 3) + 1)) fun S4 => (B8_readWord_72 n n9) (v1 + 1) S4) else (some (0, S)) else none)) else none)
set_option maxRecDepth 100000 in
set_option maxHeartbeats 4000000 in
theorem W8_readWord_72 {r : Int32} {S2 : qSt} (C : qC g cX8_readWord RX8 2 p s m meth c) (hr : meth.sig.returnType = (some .boolean)) (n : Nat) : ∀ (n9 : Nat) (v1 : Int32) (S : qSt), B8_readWord_72 n n9 v1 S = some (r, S2) → qR g NL qT 2 p l e rmX8_readWord s m args below meth c 0 0 (MQ below (qQi g NL qT (qmem g S2) r) args s 0 0 (qA g)) (qmem g S) 72 [(0, .ref (qa g 111)), (1, .int v1)] [] := by
  intro n9
  induction n9 with
  | zero =>
    intro v1 S h
    have h9 : (none : Option (Int32 × qSt)) = some (r, S2) := h
    cases h9
  | succ n9 ih =>
    intro v1 S h
    rw [B8_readWord_72] at h
    refine q_iload_n C 1 dX8_readWord_72 rfl rfl ?_
    refine q_iconst (v := 5) C dX8_readWord_73 (by decide) ?_
    refine q_icmp_ge (tgt := 147) C h dX8_readWord_74 (by decide) (fun h => ?_) (fun h => ?_)
    · refine q_iconst (v := 1) C dX8_readWord_147 (by decide) ?_
      obtain ⟨rfl, rfl⟩ := Prod.mk.inj (Option.some.inj h)
      exact q_zret C hr (by decide) (Nat.le_refl 0) (Nat.le_refl 0) dX8_readWord_148
    · refine q_aload_n C 0 dX8_readWord_77 rfl rfl ?_
      refine s_getr (a := 119) C lf8_32 ltp_111 kd_111 rfl dX8_readWord_78 ?_
      refine q_iconst (v := 5) C dX8_readWord_81 (by decide) ?_
      refine q_aload_n C 0 dX8_readWord_82 rfl rfl ?_
      refine s_geti C lf8_130 ltp_111 kd_111 dX8_readWord_83 ?_
      refine q_imul C dX8_readWord_86 ?_
      refine q_iload_n C 1 dX8_readWord_87 rfl rfl ?_
      refine q_iadd C dX8_readWord_88 ?_
      obtain ⟨hb2, h⟩ := q_if h
      refine s_iald C ltp_119 kd_119 hb2 dX8_readWord_89 ?_
      refine q_if_eq (tgt := 147) C h dX8_readWord_90 (by decide) (fun h => ?_) (fun h => ?_)
      · refine q_iconst (v := 1) C dX8_readWord_147 (by decide) ?_
        obtain ⟨rfl, rfl⟩ := Prod.mk.inj (Option.some.inj h)
        exact q_zret C hr (by decide) (Nat.le_refl 0) (Nat.le_refl 0) dX8_readWord_148
      · refine q_aload_n C 0 dX8_readWord_93 rfl rfl ?_
        refine s_geti C lf8_107 ltp_111 kd_111 dX8_readWord_94 ?_
        refine q_aload_n C 0 dX8_readWord_97 rfl rfl ?_
        refine s_geti C lf8_100 ltp_111 kd_111 dX8_readWord_98 ?_
        refine q_icmp_eq (tgt := 129) C h dX8_readWord_101 (by decide) (fun h => ?_) (fun h => ?_)
        · refine q_iconst (v := 0) C dX8_readWord_129 (by decide) ?_
          obtain ⟨rfl, rfl⟩ := Prod.mk.inj (Option.some.inj h)
          exact q_zret C hr (by decide) (Nat.le_refl 0) (Nat.le_refl 0) dX8_readWord_130
        · refine q_aload_n C 0 dX8_readWord_104 rfl rfl ?_
          refine s_getr (a := 112) C lf8_7 ltp_111 kd_111 rfl dX8_readWord_105 ?_
          refine q_aload_n C 0 dX8_readWord_108 rfl rfl ?_
          refine s_geti C lf8_107 ltp_111 kd_111 dX8_readWord_109 ?_
          obtain ⟨hb3, h⟩ := q_if h
          refine s_iald C ltp_112 kd_112 hb3 dX8_readWord_112 ?_
          refine q_aload_n C 0 dX8_readWord_113 rfl rfl ?_
          refine s_getr (a := 119) C lf8_32 ltp_111 kd_111 rfl dX8_readWord_114 ?_
          refine q_iconst (v := 5) C dX8_readWord_117 (by decide) ?_
          refine q_aload_n C 0 dX8_readWord_118 rfl rfl ?_
          refine s_geti C lf8_130 ltp_111 kd_111 dX8_readWord_119 ?_
          refine q_imul C dX8_readWord_122 ?_
          refine q_iload_n C 1 dX8_readWord_123 rfl rfl ?_
          refine q_iadd C dX8_readWord_124 ?_
          refine s_iald C ltp_119 kd_119 hb2 dX8_readWord_125 ?_
          refine q_icmp_eq (tgt := 131) C h dX8_readWord_126 (by decide) (fun h => ?_) (fun h => ?_)
          · refine q_aload_n C 0 dX8_readWord_131 rfl rfl ?_
            refine q_dup C dX8_readWord_132 rfl ?_
            refine s_geti C lf8_107 ltp_111 kd_111 dX8_readWord_133 ?_
            refine q_iconst (v := 1) C dX8_readWord_136 (by decide) ?_
            refine q_iadd C dX8_readWord_137 ?_
            obtain ⟨S4, hS4, h⟩ := obs_e h
            refine s_puti C lf8_107 ltp_111 kd_111 dX8_readWord_138 ?_
            rw [← hS4]
            refine q_iinc C 1 (v := v1 + 1) (lv' := [(1, .int (v1 + 1)), (0, .ref (qa g 111))]) dX8_readWord_141 rfl rfl (by decide) rfl ?_
            refine q_norm [1, 0] rfl ?_
            refine q_goto (tgt := 72) C dX8_readWord_144 (by decide) ?_
            exact ih (v1 + 1) S4 h
          · refine q_iconst (v := 0) C dX8_readWord_129 (by decide) ?_
            obtain ⟨rfl, rfl⟩ := Prod.mk.inj (Option.some.inj h)
            exact q_zret C hr (by decide) (Nat.le_refl 0) (Nat.le_refl 0) dX8_readWord_130
def B8_readWord_60 (n : Nat) (S : qSt) : Option (Int32 × qSt) := if ¬ (S 111 16) = 5 then (B8_readWord_72 n n 0 S) else (some (0, S))
set_option maxRecDepth 100000 in
set_option maxHeartbeats 4000000 in
theorem W8_readWord_60 {r : Int32} {S2 : qSt} (C : qC g cX8_readWord RX8 2 p s m meth c) (hr : meth.sig.returnType = (some .boolean)) (n : Nat) (S : qSt) (h : B8_readWord_60 n S = some (r, S2)) : qR g NL qT 2 p l e rmX8_readWord s m args below meth c 0 0 (MQ below (qQi g NL qT (qmem g S2) r) args s 0 0 (qA g)) (qmem g S) 60 [(0, .ref (qa g 111))] [] := by
  unfold B8_readWord_60 at h
  refine q_aload_n C 0 dX8_readWord_60 rfl rfl ?_
  refine s_geti C lf8_130 ltp_111 kd_111 dX8_readWord_61 ?_
  refine q_iconst (v := 5) C dX8_readWord_64 (by decide) ?_
  refine q_icmp_ne (tgt := 70) C h dX8_readWord_65 (by decide) (fun h => ?_) (fun h => ?_)
  · refine q_iconst (v := 0) C dX8_readWord_70 (by decide) ?_
    refine q_istore_n C (lv' := [(1, .int 0), (0, .ref (qa g 111))]) dX8_readWord_71 rfl (by decide) rfl ?_
    refine q_norm [1, 0] rfl ?_
    exact W8_readWord_72 C hr n n 0 S h
  · refine q_iconst (v := 0) C dX8_readWord_68 (by decide) ?_
    obtain ⟨rfl, rfl⟩ := Prod.mk.inj (Option.some.inj h)
    exact q_zret C hr (by decide) (Nat.le_refl 0) (Nat.le_refl 0) dX8_readWord_69
def B8_readWord_47 (n : Nat) (K5 : qSt → Option (Int32 × qSt)) (S : qSt) : Option (Int32 × qSt) := obs (qup S 111 16 ((S 111 16) + 1)) fun S5 => K5 S5
set_option maxRecDepth 100000 in
set_option maxHeartbeats 4000000 in
theorem W8_readWord_47 {r : Int32} {S2 : qSt} (C : qC g cX8_readWord RX8 2 p s m meth c) (hr : meth.sig.returnType = (some .boolean)) (n : Nat) (K5 : qSt → Option (Int32 × qSt)) (hK5 : ∀ (S : qSt), K5 S = some (r, S2) → qR g NL qT 2 p l e rmX8_readWord s m args below meth c 0 0 (MQ below (qQi g NL qT (qmem g S2) r) args s 0 0 (qA g)) (qmem g S) 5 [(0, .ref (qa g 111))] []) (S : qSt) (h : B8_readWord_47 n K5 S = some (r, S2)) : qR g NL qT 2 p l e rmX8_readWord s m args below meth c 0 0 (MQ below (qQi g NL qT (qmem g S2) r) args s 0 0 (qA g)) (qmem g S) 47 [(0, .ref (qa g 111))] [] := by
  unfold B8_readWord_47 at h
  refine q_aload_n C 0 dX8_readWord_47 rfl rfl ?_
  refine q_dup C dX8_readWord_48 rfl ?_
  refine s_geti C lf8_130 ltp_111 kd_111 dX8_readWord_49 ?_
  refine q_iconst (v := 1) C dX8_readWord_52 (by decide) ?_
  refine q_iadd C dX8_readWord_53 ?_
  obtain ⟨S5, hS5, h⟩ := obs_e h
  refine s_puti C lf8_130 ltp_111 kd_111 dX8_readWord_54 ?_
  rw [← hS5]
  refine q_goto (tgt := 5) C dX8_readWord_57 (by decide) ?_
  exact hK5 S5 h
def B8_readWord_5 (n : Nat) : Nat → qSt → Option (Int32 × qSt)
  | 0, _ => none
  | n9 + 1, S => if 5 ≤ (S 111 16) then (B8_readWord_60 n S) else (if (S 111 3) = (S 111 2) then (B8_readWord_47 n (B8_readWord_5 n n9) S) else (if qin (5 * (S 111 16)) 25 = true then if qin (S 111 3) 140 = true then if (S 119 (5 * (S 111 16)).toNatClampNeg) = (S 112 (S 111 3).toNatClampNeg) then (B8_readWord_60 n S) else (B8_readWord_47 n (B8_readWord_5 n n9) S) else none else none))
set_option maxRecDepth 100000 in
set_option maxHeartbeats 4000000 in
theorem W8_readWord_5 {r : Int32} {S2 : qSt} (C : qC g cX8_readWord RX8 2 p s m meth c) (hr : meth.sig.returnType = (some .boolean)) (n : Nat) : ∀ (n9 : Nat) (S : qSt), B8_readWord_5 n n9 S = some (r, S2) → qR g NL qT 2 p l e rmX8_readWord s m args below meth c 0 0 (MQ below (qQi g NL qT (qmem g S2) r) args s 0 0 (qA g)) (qmem g S) 5 [(0, .ref (qa g 111))] [] := by
  intro n9
  induction n9 with
  | zero =>
    intro S h
    have h9 : (none : Option (Int32 × qSt)) = some (r, S2) := h
    cases h9
  | succ n9 ih =>
    intro S h
    rw [B8_readWord_5] at h
    refine q_aload_n C 0 dX8_readWord_5 rfl rfl ?_
    refine s_geti C lf8_130 ltp_111 kd_111 dX8_readWord_6 ?_
    refine q_iconst (v := 5) C dX8_readWord_9 (by decide) ?_
    refine q_icmp_ge (tgt := 60) C h dX8_readWord_10 (by decide) (fun h => ?_) (fun h => ?_)
    · exact W8_readWord_60 C hr n S h
    · refine q_aload_n C 0 dX8_readWord_13 rfl rfl ?_
      refine s_geti C lf8_107 ltp_111 kd_111 dX8_readWord_14 ?_
      refine q_aload_n C 0 dX8_readWord_17 rfl rfl ?_
      refine s_geti C lf8_100 ltp_111 kd_111 dX8_readWord_18 ?_
      refine q_icmp_eq (tgt := 47) C h dX8_readWord_21 (by decide) (fun h => ?_) (fun h => ?_)
      · exact W8_readWord_47 C hr n (B8_readWord_5 n n9) ih S h
      · refine q_aload_n C 0 dX8_readWord_24 rfl rfl ?_
        refine s_getr (a := 119) C lf8_32 ltp_111 kd_111 rfl dX8_readWord_25 ?_
        refine q_iconst (v := 5) C dX8_readWord_28 (by decide) ?_
        refine q_aload_n C 0 dX8_readWord_29 rfl rfl ?_
        refine s_geti C lf8_130 ltp_111 kd_111 dX8_readWord_30 ?_
        refine q_imul C dX8_readWord_33 ?_
        obtain ⟨hb6, h⟩ := q_if h
        refine s_iald C ltp_119 kd_119 hb6 dX8_readWord_34 ?_
        refine q_aload_n C 0 dX8_readWord_35 rfl rfl ?_
        refine s_getr (a := 112) C lf8_7 ltp_111 kd_111 rfl dX8_readWord_36 ?_
        refine q_aload_n C 0 dX8_readWord_39 rfl rfl ?_
        refine s_geti C lf8_107 ltp_111 kd_111 dX8_readWord_40 ?_
        obtain ⟨hb7, h⟩ := q_if h
        refine s_iald C ltp_112 kd_112 hb7 dX8_readWord_43 ?_
        refine q_icmp_eq (tgt := 60) C h dX8_readWord_44 (by decide) (fun h => ?_) (fun h => ?_)
        · exact W8_readWord_60 C hr n S h
        · exact W8_readWord_47 C hr n (B8_readWord_5 n n9) ih S h
def F8_readWord (n : Nat) (S : qSt) : Option (Int32 × qSt) := obs (qup S 111 16 0) fun S1 => B8_readWord_5 n n S1
set_option maxRecDepth 100000 in
set_option maxHeartbeats 4000000 in
theorem kX8_readWord {l : Launch} {g : qG} (n : Nat) (S : qSt) {r : Int32} {S2 : qSt} (h : F8_readWord n S = some (r, S2)) : Met l yX8_readWord [.code yX8_readWord cX8_readWord 2 (some .boolean)] rmX8_readWord (qPc g NL qT (qmem g S) [.ref (qa g 111)]) (qQi g NL qT (qmem g S2) r) 0 0 (qA g) := by
  refine q_met (by decide) (Nat.le_of_ble_eq_true rfl) (fun p e s m args below meth c C hr _ => ?_)
  have C : qC g cX8_readWord RX8 2 p s m meth c := C
  show qR g NL qT 2 p l e rmX8_readWord s m args below meth c 0 0 (MQ below (qQi g NL qT (qmem g S2) r) args s 0 0 (qA g)) (qmem g S) 0 [(0, .ref (qa g 111))] []
  unfold F8_readWord at h
  refine q_aload_n C 0 dX8_readWord_0 rfl rfl ?_
  refine q_iconst (v := 0) C dX8_readWord_1 (by decide) ?_
  obtain ⟨S1, hS1, h⟩ := obs_e h
  refine s_puti C lf8_130 ltp_111 kd_111 dX8_readWord_2 ?_
  rw [← hS1]
  exact W8_readWord_5 C hr n n S1 h
/-! ClosedStreetsModel.readBlank -/
abbrev rmX8_readBlank : Room := { frames := 0, cells := 0, slots := 0, locals := 0 }
def F8_readBlank (S : qSt) : Option (Int32 × qSt) := if (S 111 3) = (S 111 2) then (some (0, S)) else (if qin (S 111 3) 140 = true then if (S 112 (S 111 3).toNatClampNeg) = 32 then (obs (qup S 111 3 ((S 111 3) + 1)) fun S2 => some (1, S2)) else (some (0, S)) else none)
set_option maxRecDepth 100000 in
set_option maxHeartbeats 4000000 in
theorem kX8_readBlank {l : Launch} {g : qG} (S : qSt) {r : Int32} {S2 : qSt} (h : F8_readBlank S = some (r, S2)) : Met l yX8_readBlank [.code yX8_readBlank cX8_readBlank 1 (some .boolean)] rmX8_readBlank (qPc g NL qT (qmem g S) [.ref (qa g 111)]) (qQi g NL qT (qmem g S2) r) 0 0 (qA g) := by
  refine q_met (by decide) (Nat.le_of_ble_eq_true rfl) (fun p e s m args below meth c C hr _ => ?_)
  have C : qC g cX8_readBlank RX8 1 p s m meth c := C
  show qR g NL qT 1 p l e rmX8_readBlank s m args below meth c 0 0 (MQ below (qQi g NL qT (qmem g S2) r) args s 0 0 (qA g)) (qmem g S) 0 [(0, .ref (qa g 111))] []
  unfold F8_readBlank at h
  refine q_aload_n C 0 dX8_readBlank_0 rfl rfl ?_
  refine s_geti C lf8_107 ltp_111 kd_111 dX8_readBlank_1 ?_
  refine q_aload_n C 0 dX8_readBlank_4 rfl rfl ?_
  refine s_geti C lf8_100 ltp_111 kd_111 dX8_readBlank_5 ?_
  refine q_icmp_eq (tgt := 25) C h dX8_readBlank_8 (by decide) (fun h => ?_) (fun h => ?_)
  · refine q_iconst (v := 0) C dX8_readBlank_25 (by decide) ?_
    obtain ⟨rfl, rfl⟩ := Prod.mk.inj (Option.some.inj h)
    exact q_zret C hr (by decide) (Nat.le_refl 0) (Nat.le_refl 0) dX8_readBlank_26
  · refine q_aload_n C 0 dX8_readBlank_11 rfl rfl ?_
    refine s_getr (a := 112) C lf8_7 ltp_111 kd_111 rfl dX8_readBlank_12 ?_
    refine q_aload_n C 0 dX8_readBlank_15 rfl rfl ?_
    refine s_geti C lf8_107 ltp_111 kd_111 dX8_readBlank_16 ?_
    obtain ⟨hb1, h⟩ := q_if h
    refine s_iald C ltp_112 kd_112 hb1 dX8_readBlank_19 ?_
    refine q_bipush (v := 32) C dX8_readBlank_20 (by decide) ?_
    refine q_icmp_eq (tgt := 27) C h dX8_readBlank_22 (by decide) (fun h => ?_) (fun h => ?_)
    · refine q_aload_n C 0 dX8_readBlank_27 rfl rfl ?_
      refine q_dup C dX8_readBlank_28 rfl ?_
      refine s_geti C lf8_107 ltp_111 kd_111 dX8_readBlank_29 ?_
      refine q_iconst (v := 1) C dX8_readBlank_32 (by decide) ?_
      refine q_iadd C dX8_readBlank_33 ?_
      obtain ⟨S2, hS2, h⟩ := obs_e h
      refine s_puti C lf8_107 ltp_111 kd_111 dX8_readBlank_34 ?_
      rw [← hS2]
      refine q_iconst (v := 1) C dX8_readBlank_37 (by decide) ?_
      obtain ⟨rfl, rfl⟩ := Prod.mk.inj (Option.some.inj h)
      exact q_zret C hr (by decide) (Nat.le_refl 0) (Nat.le_refl 0) dX8_readBlank_38
    · refine q_iconst (v := 0) C dX8_readBlank_25 (by decide) ?_
      obtain ⟨rfl, rfl⟩ := Prod.mk.inj (Option.some.inj h)
      exact q_zret C hr (by decide) (Nat.le_refl 0) (Nat.le_refl 0) dX8_readBlank_26
/-! ClosedStreetsModel.readNumber -/
abbrev rmX8_readNumber : Room := { frames := 2, cells := 0, slots := 0, locals := 80 }
def B8_readNumber_28 (v1 : Int32) (t0 : Int32) (S : qSt) : Option (Int32 × qSt) := if ¬ t0 = (-999) then (some ((10 * v1) + t0, S)) else (some (v1, S))
set_option maxRecDepth 100000 in
set_option maxHeartbeats 4000000 in
theorem W8_readNumber_28 {r : Int32} {S2 : qSt} (C : qC g cX8_readNumber RX8 3 p s m meth c) (hr : meth.sig.returnType = (some .int)) (v1 : Int32) (t0 : Int32) (S : qSt) (h : B8_readNumber_28 v1 t0 S = some (r, S2)) : qR g NL qT 3 p l e rmX8_readNumber s m args below meth c 0 0 (MQ below (qQi g NL qT (qmem g S2) r) args s 0 0 (qA g)) (qmem g S) 28 [(1, .int v1)] [.int t0] := by
  unfold B8_readNumber_28 at h
  refine q_istore_n C (lv' := [(2, .int t0), (1, .int v1)]) dX8_readNumber_28 rfl (by decide) rfl ?_
  refine q_norm [1, 0] rfl ?_
  refine q_iload_n C 1 dX8_readNumber_29 rfl rfl ?_
  refine q_sipush (v := (-999)) C dX8_readNumber_30 (by decide) ?_
  refine q_icmp_ne (tgt := 40) C h dX8_readNumber_33 (by decide) (fun h => ?_) (fun h => ?_)
  · refine q_bipush (v := 10) C dX8_readNumber_40 (by decide) ?_
    refine q_iload_n C 0 dX8_readNumber_42 rfl rfl ?_
    refine q_imul C dX8_readNumber_43 ?_
    refine q_iload_n C 1 dX8_readNumber_44 rfl rfl ?_
    refine q_iadd C dX8_readNumber_45 ?_
    obtain ⟨rfl, rfl⟩ := Prod.mk.inj (Option.some.inj h)
    exact q_iret C hr (Nat.le_refl 0) (Nat.le_refl 0) dX8_readNumber_46
  · refine q_iload_n C 0 dX8_readNumber_36 rfl rfl ?_
    refine q_goto (tgt := 46) C dX8_readNumber_37 (by decide) ?_
    obtain ⟨rfl, rfl⟩ := Prod.mk.inj (Option.some.inj h)
    exact q_iret C hr (Nat.le_refl 0) (Nat.le_refl 0) dX8_readNumber_46
def F8_readNumber (S : qSt) : Option (Int32 × qSt) := ob2 (F8_digit 0 9 S) fun r2 S3 => if ¬ r2 = (-999) then (ob2 (F8_digit 0 9 S3) fun r5 S6 => B8_readNumber_28 r2 r5 S6) else (B8_readNumber_28 r2 (-999) S3)
set_option maxRecDepth 100000 in
set_option maxHeartbeats 4000000 in
theorem kX8_readNumber {l : Launch} {g : qG} (S : qSt) {r : Int32} {S2 : qSt} (h : F8_readNumber S = some (r, S2)) : Met l yX8_readNumber [.code yX8_readNumber cX8_readNumber 3 (some .int)] rmX8_readNumber (qPc g NL qT (qmem g S) [.ref (qa g 111)]) (qQi g NL qT (qmem g S2) r) 0 0 (qA g) := by
  refine q_met (by decide) (Nat.le_of_ble_eq_true rfl) (fun p e s m args below meth c C hr _ => ?_)
  have C : qC g cX8_readNumber RX8 3 p s m meth c := C
  show qR g NL qT 3 p l e rmX8_readNumber s m args below meth c 0 0 (MQ below (qQi g NL qT (qmem g S2) r) args s 0 0 (qA g)) (qmem g S) 0 [(0, .ref (qa g 111))] []
  unfold F8_readNumber at h
  refine q_aload_n C 0 dX8_readNumber_0 rfl rfl ?_
  refine q_iconst (v := 0) C dX8_readNumber_1 (by decide) ?_
  refine q_bipush (v := 9) C dX8_readNumber_2 (by decide) ?_
  obtain ⟨r2, S3, hc1, h⟩ := ob2_e h
  refine q_callVi0 C ltp_111 (qmem_o kd_111 (Nat.le_of_ble_eq_true rfl)) rfl rfl (kX8_digit 0 9 S hc1) lm8_110 rfl (rest := []) rfl (Nat.le_of_ble_eq_true rfl) dX8_readNumber_4 ⟨rfl, rfl, Nat.le_of_ble_eq_true rfl, Nat.le_of_ble_eq_true rfl, Nat.le_of_ble_eq_true rfl, Nat.le_of_ble_eq_true rfl⟩ ?_
  refine q_istore_n C (lv' := [(1, .int r2), (0, .ref (qa g 111))]) dX8_readNumber_7 rfl (by decide) rfl ?_
  refine q_norm [1, 0] rfl ?_
  refine q_iload_n C 1 dX8_readNumber_8 rfl rfl ?_
  refine q_sipush (v := (-999)) C dX8_readNumber_9 (by decide) ?_
  refine q_icmp_ne (tgt := 21) C h dX8_readNumber_12 (by decide) (fun h => ?_) (fun h => ?_)
  · refine q_aload_n C 0 dX8_readNumber_21 rfl rfl ?_
    refine q_iconst (v := 0) C dX8_readNumber_22 (by decide) ?_
    refine q_bipush (v := 9) C dX8_readNumber_23 (by decide) ?_
    obtain ⟨r5, S6, hc4, h⟩ := ob2_e h
    refine q_callVi0 C ltp_111 (qmem_o kd_111 (Nat.le_of_ble_eq_true rfl)) rfl rfl (kX8_digit 0 9 S3 hc4) lm8_110 rfl (rest := []) rfl (Nat.le_of_ble_eq_true rfl) dX8_readNumber_25 ⟨rfl, rfl, Nat.le_of_ble_eq_true rfl, Nat.le_of_ble_eq_true rfl, Nat.le_of_ble_eq_true rfl, Nat.le_of_ble_eq_true rfl⟩ ?_
    refine q_norm [1] rfl ?_
    exact W8_readNumber_28 C hr r2 r5 S6 h
  · refine q_sipush (v := (-999)) C dX8_readNumber_15 (by decide) ?_
    refine q_goto (tgt := 28) C dX8_readNumber_18 (by decide) ?_
    refine q_norm [1] rfl ?_
    exact W8_readNumber_28 C hr r2 (-999) S3 h
/-! ClosedStreetsModel.readCommand -/
abbrev rmX8_readCommand : Room := { frames := 3, cells := 0, slots := 0, locals := 120 }
def B8_readCommand_58 (n : Nat) (S : qSt) : Option (Int32 × qSt) := if (S 111 17) = (-999) then (some (0, S)) else (some (1, S))
set_option maxRecDepth 100000 in
set_option maxHeartbeats 4000000 in
theorem W8_readCommand_58 {r : Int32} {S2 : qSt} (C : qC g cX8_readCommand RX8 1 p s m meth c) (hr : meth.sig.returnType = (some .boolean)) (n : Nat) (S : qSt) (h : B8_readCommand_58 n S = some (r, S2)) : qR g NL qT 1 p l e rmX8_readCommand s m args below meth c 0 0 (MQ below (qQi g NL qT (qmem g S2) r) args s 0 0 (qA g)) (qmem g S) 58 [(0, .ref (qa g 111))] [] := by
  unfold B8_readCommand_58 at h
  refine q_aload_n C 0 dX8_readCommand_58 rfl rfl ?_
  refine s_geti C lf8_143 ltp_111 kd_111 dX8_readCommand_59 ?_
  refine q_sipush (v := (-999)) C dX8_readCommand_62 (by decide) ?_
  refine q_icmp_eq (tgt := 72) C h dX8_readCommand_65 (by decide) (fun h => ?_) (fun h => ?_)
  · refine q_iconst (v := 0) C dX8_readCommand_72 (by decide) ?_
    obtain ⟨rfl, rfl⟩ := Prod.mk.inj (Option.some.inj h)
    exact q_zret C hr (by decide) (Nat.le_refl 0) (Nat.le_refl 0) dX8_readCommand_73
  · refine q_iconst (v := 1) C dX8_readCommand_68 (by decide) ?_
    refine q_goto (tgt := 73) C dX8_readCommand_69 (by decide) ?_
    obtain ⟨rfl, rfl⟩ := Prod.mk.inj (Option.some.inj h)
    exact q_zret C hr (by decide) (Nat.le_refl 0) (Nat.le_refl 0) dX8_readCommand_73
def B8_readCommand_92 (n : Nat) (t1 : Int32) (S : qSt) : Option (Int32 × qSt) := obs (qup S 111 18 t1) fun S11 => if (S11 111 18) = (-999) then (some (0, S11)) else (some (1, S11))
set_option maxRecDepth 100000 in
set_option maxHeartbeats 4000000 in
theorem W8_readCommand_92 {r : Int32} {S2 : qSt} (C : qC g cX8_readCommand RX8 1 p s m meth c) (hr : meth.sig.returnType = (some .boolean)) (n : Nat) (t1 : Int32) (S : qSt) (h : B8_readCommand_92 n t1 S = some (r, S2)) : qR g NL qT 1 p l e rmX8_readCommand s m args below meth c 0 0 (MQ below (qQi g NL qT (qmem g S2) r) args s 0 0 (qA g)) (qmem g S) 92 [(0, .ref (qa g 111))] [.int t1, .ref (qa g 111)] := by
  unfold B8_readCommand_92 at h
  obtain ⟨S11, hS11, h⟩ := obs_e h
  refine s_puti C lf8_146 ltp_111 kd_111 dX8_readCommand_92 ?_
  rw [← hS11]
  refine q_aload_n C 0 dX8_readCommand_95 rfl rfl ?_
  refine s_geti C lf8_146 ltp_111 kd_111 dX8_readCommand_96 ?_
  refine q_sipush (v := (-999)) C dX8_readCommand_99 (by decide) ?_
  refine q_icmp_eq (tgt := 109) C h dX8_readCommand_102 (by decide) (fun h => ?_) (fun h => ?_)
  · refine q_iconst (v := 0) C dX8_readCommand_109 (by decide) ?_
    obtain ⟨rfl, rfl⟩ := Prod.mk.inj (Option.some.inj h)
    exact q_zret C hr (by decide) (Nat.le_refl 0) (Nat.le_refl 0) dX8_readCommand_110
  · refine q_iconst (v := 1) C dX8_readCommand_105 (by decide) ?_
    refine q_goto (tgt := 110) C dX8_readCommand_106 (by decide) ?_
    obtain ⟨rfl, rfl⟩ := Prod.mk.inj (Option.some.inj h)
    exact q_zret C hr (by decide) (Nat.le_refl 0) (Nat.le_refl 0) dX8_readCommand_110
def B8_readCommand_37 (n : Nat) (t1 : Int32) (S : qSt) : Option (Int32 × qSt) := obs (qup S 111 17 t1) fun S7 => if (S7 111 17) = (-999) then (B8_readCommand_58 n S7) else (if 2 ≤ (S7 111 16) then (ob2 (F8_readBlank S7) fun r9 S10 => if r9 = 0 then (B8_readCommand_92 n (-999) S10) else (ob2 (F8_readNumber S10) fun r13 S14 => B8_readCommand_92 n r13 S14)) else (B8_readCommand_58 n S7))
set_option maxRecDepth 100000 in
set_option maxHeartbeats 4000000 in
theorem W8_readCommand_37 {r : Int32} {S2 : qSt} (C : qC g cX8_readCommand RX8 1 p s m meth c) (hr : meth.sig.returnType = (some .boolean)) (n : Nat) (t1 : Int32) (S : qSt) (h : B8_readCommand_37 n t1 S = some (r, S2)) : qR g NL qT 1 p l e rmX8_readCommand s m args below meth c 0 0 (MQ below (qQi g NL qT (qmem g S2) r) args s 0 0 (qA g)) (qmem g S) 37 [(0, .ref (qa g 111))] [.int t1, .ref (qa g 111)] := by
  unfold B8_readCommand_37 at h
  obtain ⟨S7, hS7, h⟩ := obs_e h
  refine s_puti C lf8_143 ltp_111 kd_111 dX8_readCommand_37 ?_
  rw [← hS7]
  refine q_aload_n C 0 dX8_readCommand_40 rfl rfl ?_
  refine s_geti C lf8_143 ltp_111 kd_111 dX8_readCommand_41 ?_
  refine q_sipush (v := (-999)) C dX8_readCommand_44 (by decide) ?_
  refine q_icmp_eq (tgt := 58) C h dX8_readCommand_47 (by decide) (fun h => ?_) (fun h => ?_)
  · exact W8_readCommand_58 C hr n S7 h
  · refine q_aload_n C 0 dX8_readCommand_50 rfl rfl ?_
    refine s_geti C lf8_130 ltp_111 kd_111 dX8_readCommand_51 ?_
    refine q_iconst (v := 2) C dX8_readCommand_54 (by decide) ?_
    refine q_icmp_ge (tgt := 74) C h dX8_readCommand_55 (by decide) (fun h => ?_) (fun h => ?_)
    · refine q_aload_n C 0 dX8_readCommand_74 rfl rfl ?_
      refine q_aload_n C 0 dX8_readCommand_75 rfl rfl ?_
      obtain ⟨r9, S10, hc8, h⟩ := ob2_e h
      refine q_callVi0 C ltp_111 (qmem_o kd_111 (Nat.le_of_ble_eq_true rfl)) rfl rfl (kX8_readBlank S7 hc8) lm8_136 rfl (rest := [.ref (qa g 111)]) rfl (Nat.le_of_ble_eq_true rfl) dX8_readCommand_76 ⟨rfl, rfl, Nat.le_of_ble_eq_true rfl, Nat.le_of_ble_eq_true rfl, Nat.le_of_ble_eq_true rfl, Nat.le_of_ble_eq_true rfl⟩ ?_
      refine q_if_eq (tgt := 89) C h dX8_readCommand_79 (by decide) (fun h => ?_) (fun h => ?_)
      · refine q_sipush (v := (-999)) C dX8_readCommand_89 (by decide) ?_
        exact W8_readCommand_92 C hr n (-999) S10 h
      · refine q_aload_n C 0 dX8_readCommand_82 rfl rfl ?_
        obtain ⟨r13, S14, hc12, h⟩ := ob2_e h
        refine q_callVi0 C ltp_111 (qmem_o kd_111 (Nat.le_of_ble_eq_true rfl)) rfl rfl (kX8_readNumber S10 hc12) lm8_139 rfl (rest := [.ref (qa g 111)]) rfl (Nat.le_of_ble_eq_true rfl) dX8_readCommand_83 ⟨rfl, rfl, Nat.le_of_ble_eq_true rfl, Nat.le_of_ble_eq_true rfl, Nat.le_of_ble_eq_true rfl, Nat.le_of_ble_eq_true rfl⟩ ?_
        refine q_goto (tgt := 92) C dX8_readCommand_86 (by decide) ?_
        exact W8_readCommand_92 C hr n r13 S14 h
    · exact W8_readCommand_58 C hr n S7 h
def F8_readCommand (n : Nat) (S : qSt) : Option (Int32 × qSt) := ob2 (F8_readWord n S) fun r2 S3 => if ¬ r2 = 0 then (if ¬ (S3 111 16) = 4 then (ob2 (F8_readBlank S3) fun r5 S6 => if r5 = 0 then (B8_readCommand_37 n (-999) S6) else (ob2 (F8_readNumber S6) fun r16 S17 => B8_readCommand_37 n r16 S17)) else (some (1, S3))) else (some (0, S3))
set_option maxRecDepth 100000 in
set_option maxHeartbeats 4000000 in
theorem kX8_readCommand {l : Launch} {g : qG} (n : Nat) (S : qSt) {r : Int32} {S2 : qSt} (h : F8_readCommand n S = some (r, S2)) : Met l yX8_readCommand [.code yX8_readCommand cX8_readCommand 1 (some .boolean)] rmX8_readCommand (qPc g NL qT (qmem g S) [.ref (qa g 111)]) (qQi g NL qT (qmem g S2) r) 0 0 (qA g) := by
  refine q_met (by decide) (Nat.le_of_ble_eq_true rfl) (fun p e s m args below meth c C hr _ => ?_)
  have C : qC g cX8_readCommand RX8 1 p s m meth c := C
  show qR g NL qT 1 p l e rmX8_readCommand s m args below meth c 0 0 (MQ below (qQi g NL qT (qmem g S2) r) args s 0 0 (qA g)) (qmem g S) 0 [(0, .ref (qa g 111))] []
  unfold F8_readCommand at h
  refine q_aload_n C 0 dX8_readCommand_0 rfl rfl ?_
  obtain ⟨r2, S3, hc1, h⟩ := ob2_e h
  refine q_callVi0 C ltp_111 (qmem_o kd_111 (Nat.le_of_ble_eq_true rfl)) rfl rfl (kX8_readWord n S hc1) lm8_133 rfl (rest := []) rfl (Nat.le_of_ble_eq_true rfl) dX8_readCommand_1 ⟨rfl, rfl, Nat.le_of_ble_eq_true rfl, Nat.le_of_ble_eq_true rfl, Nat.le_of_ble_eq_true rfl, Nat.le_of_ble_eq_true rfl⟩ ?_
  refine q_if_ne (tgt := 9) C h dX8_readCommand_4 (by decide) (fun h => ?_) (fun h => ?_)
  · refine q_aload_n C 0 dX8_readCommand_9 rfl rfl ?_
    refine s_geti C lf8_130 ltp_111 kd_111 dX8_readCommand_10 ?_
    refine q_iconst (v := 4) C dX8_readCommand_13 (by decide) ?_
    refine q_icmp_ne (tgt := 19) C h dX8_readCommand_14 (by decide) (fun h => ?_) (fun h => ?_)
    · refine q_aload_n C 0 dX8_readCommand_19 rfl rfl ?_
      refine q_aload_n C 0 dX8_readCommand_20 rfl rfl ?_
      obtain ⟨r5, S6, hc4, h⟩ := ob2_e h
      refine q_callVi0 C ltp_111 (qmem_o kd_111 (Nat.le_of_ble_eq_true rfl)) rfl rfl (kX8_readBlank S3 hc4) lm8_136 rfl (rest := [.ref (qa g 111)]) rfl (Nat.le_of_ble_eq_true rfl) dX8_readCommand_21 ⟨rfl, rfl, Nat.le_of_ble_eq_true rfl, Nat.le_of_ble_eq_true rfl, Nat.le_of_ble_eq_true rfl, Nat.le_of_ble_eq_true rfl⟩ ?_
      refine q_if_eq (tgt := 34) C h dX8_readCommand_24 (by decide) (fun h => ?_) (fun h => ?_)
      · refine q_sipush (v := (-999)) C dX8_readCommand_34 (by decide) ?_
        exact W8_readCommand_37 C hr n (-999) S6 h
      · refine q_aload_n C 0 dX8_readCommand_27 rfl rfl ?_
        obtain ⟨r16, S17, hc15, h⟩ := ob2_e h
        refine q_callVi0 C ltp_111 (qmem_o kd_111 (Nat.le_of_ble_eq_true rfl)) rfl rfl (kX8_readNumber S6 hc15) lm8_139 rfl (rest := [.ref (qa g 111)]) rfl (Nat.le_of_ble_eq_true rfl) dX8_readCommand_28 ⟨rfl, rfl, Nat.le_of_ble_eq_true rfl, Nat.le_of_ble_eq_true rfl, Nat.le_of_ble_eq_true rfl, Nat.le_of_ble_eq_true rfl⟩ ?_
        refine q_goto (tgt := 37) C dX8_readCommand_31 (by decide) ?_
        exact W8_readCommand_37 C hr n r16 S17 h
    · refine q_iconst (v := 1) C dX8_readCommand_17 (by decide) ?_
      obtain ⟨rfl, rfl⟩ := Prod.mk.inj (Option.some.inj h)
      exact q_zret C hr (by decide) (Nat.le_refl 0) (Nat.le_refl 0) dX8_readCommand_18
  · refine q_iconst (v := 0) C dX8_readCommand_7 (by decide) ?_
    obtain ⟨rfl, rfl⟩ := Prod.mk.inj (Option.some.inj h)
    exact q_zret C hr (by decide) (Nat.le_refl 0) (Nat.le_refl 0) dX8_readCommand_8
/-! ClosedStreetsModel.readPlan -/
abbrev rmX8_readPlan : Room := { frames := 4, cells := 0, slots := 0, locals := 160 }
def B8_readPlan_74 (n : Nat) (K20 : Int32 → Int32 → qSt → Option (Int32 × qSt)) (v2 : Int32) (t0 : Int32) (S : qSt) : Option (Int32 × qSt) := K20 t0 v2 S
set_option maxRecDepth 100000 in
set_option maxHeartbeats 4000000 in
theorem W8_readPlan_74 {r : Int32} {S2 : qSt} (C : qC g cX8_readPlan RX8 3 p s m meth c) (hr : meth.sig.returnType = (some .boolean)) (n : Nat) (K20 : Int32 → Int32 → qSt → Option (Int32 × qSt)) (hK20 : ∀ (v1 : Int32) (v2 : Int32) (S : qSt), K20 v1 v2 S = some (r, S2) → qR g NL qT 3 p l e rmX8_readPlan s m args below meth c 0 0 (MQ below (qQi g NL qT (qmem g S2) r) args s 0 0 (qA g)) (qmem g S) 20 [(0, .ref (qa g 111)), (1, .int v1), (2, .int v2)] []) (v2 : Int32) (t0 : Int32) (S : qSt) (h : B8_readPlan_74 n K20 v2 t0 S = some (r, S2)) : qR g NL qT 3 p l e rmX8_readPlan s m args below meth c 0 0 (MQ below (qQi g NL qT (qmem g S2) r) args s 0 0 (qA g)) (qmem g S) 74 [(0, .ref (qa g 111)), (2, .int v2)] [.int t0] := by
  unfold B8_readPlan_74 at h
  refine q_istore_n C (lv' := [(1, .int t0), (0, .ref (qa g 111)), (2, .int v2)]) dX8_readPlan_74 rfl (by decide) rfl ?_
  refine q_norm [1, 0, 2] rfl ?_
  refine q_goto (tgt := 20) C dX8_readPlan_75 (by decide) ?_
  exact hK20 t0 v2 S h
def B8_readPlan_73 (n : Nat) (K20 : Int32 → Int32 → qSt → Option (Int32 × qSt)) (v2 : Int32) (S : qSt) : Option (Int32 × qSt) := B8_readPlan_74 n K20 v2 0 S
set_option maxRecDepth 100000 in
set_option maxHeartbeats 4000000 in
theorem W8_readPlan_73 {r : Int32} {S2 : qSt} (C : qC g cX8_readPlan RX8 3 p s m meth c) (hr : meth.sig.returnType = (some .boolean)) (n : Nat) (K20 : Int32 → Int32 → qSt → Option (Int32 × qSt)) (hK20 : ∀ (v1 : Int32) (v2 : Int32) (S : qSt), K20 v1 v2 S = some (r, S2) → qR g NL qT 3 p l e rmX8_readPlan s m args below meth c 0 0 (MQ below (qQi g NL qT (qmem g S2) r) args s 0 0 (qA g)) (qmem g S) 20 [(0, .ref (qa g 111)), (1, .int v1), (2, .int v2)] []) (v2 : Int32) (S : qSt) (h : B8_readPlan_73 n K20 v2 S = some (r, S2)) : qR g NL qT 3 p l e rmX8_readPlan s m args below meth c 0 0 (MQ below (qQi g NL qT (qmem g S2) r) args s 0 0 (qA g)) (qmem g S) 73 [(0, .ref (qa g 111)), (2, .int v2)] [] := by
  unfold B8_readPlan_73 at h
  refine q_iconst (v := 0) C dX8_readPlan_73 (by decide) ?_
  exact W8_readPlan_74 C hr n K20 hK20 v2 0 S h
def B8_readPlan_69 (n : Nat) (K20 : Int32 → Int32 → qSt → Option (Int32 × qSt)) (v2 : Int32) (S : qSt) : Option (Int32 × qSt) := B8_readPlan_74 n K20 v2 1 S
set_option maxRecDepth 100000 in
set_option maxHeartbeats 4000000 in
theorem W8_readPlan_69 {r : Int32} {S2 : qSt} (C : qC g cX8_readPlan RX8 3 p s m meth c) (hr : meth.sig.returnType = (some .boolean)) (n : Nat) (K20 : Int32 → Int32 → qSt → Option (Int32 × qSt)) (hK20 : ∀ (v1 : Int32) (v2 : Int32) (S : qSt), K20 v1 v2 S = some (r, S2) → qR g NL qT 3 p l e rmX8_readPlan s m args below meth c 0 0 (MQ below (qQi g NL qT (qmem g S2) r) args s 0 0 (qA g)) (qmem g S) 20 [(0, .ref (qa g 111)), (1, .int v1), (2, .int v2)] []) (v2 : Int32) (S : qSt) (h : B8_readPlan_69 n K20 v2 S = some (r, S2)) : qR g NL qT 3 p l e rmX8_readPlan s m args below meth c 0 0 (MQ below (qQi g NL qT (qmem g S2) r) args s 0 0 (qA g)) (qmem g S) 69 [(0, .ref (qa g 111)), (2, .int v2)] [] := by
  unfold B8_readPlan_69 at h
  refine q_iconst (v := 1) C dX8_readPlan_69 (by decide) ?_
  refine q_goto (tgt := 74) C dX8_readPlan_70 (by decide) ?_
  exact W8_readPlan_74 C hr n K20 hK20 v2 1 S h
def B8_readPlan_53 (n : Nat) (K20 : Int32 → Int32 → qSt → Option (Int32 × qSt)) (v1 : Int32) (t0 : Int32) (S : qSt) : Option (Int32 × qSt) := if v1 = 0 then (B8_readPlan_73 n K20 t0 S) else (if t0 = 0 then (B8_readPlan_69 n K20 t0 S) else (ob2 (F8_readBlank S) fun r8 S9 => if r8 = 0 then (B8_readPlan_73 n K20 t0 S9) else (B8_readPlan_69 n K20 t0 S9)))
set_option maxRecDepth 100000 in
set_option maxHeartbeats 4000000 in
theorem W8_readPlan_53 {r : Int32} {S2 : qSt} (C : qC g cX8_readPlan RX8 3 p s m meth c) (hr : meth.sig.returnType = (some .boolean)) (n : Nat) (K20 : Int32 → Int32 → qSt → Option (Int32 × qSt)) (hK20 : ∀ (v1 : Int32) (v2 : Int32) (S : qSt), K20 v1 v2 S = some (r, S2) → qR g NL qT 3 p l e rmX8_readPlan s m args below meth c 0 0 (MQ below (qQi g NL qT (qmem g S2) r) args s 0 0 (qA g)) (qmem g S) 20 [(0, .ref (qa g 111)), (1, .int v1), (2, .int v2)] []) (v1 : Int32) (t0 : Int32) (S : qSt) (h : B8_readPlan_53 n K20 v1 t0 S = some (r, S2)) : qR g NL qT 3 p l e rmX8_readPlan s m args below meth c 0 0 (MQ below (qQi g NL qT (qmem g S2) r) args s 0 0 (qA g)) (qmem g S) 53 [(0, .ref (qa g 111)), (1, .int v1)] [.int t0] := by
  unfold B8_readPlan_53 at h
  refine q_istore_n C (lv' := [(2, .int t0), (0, .ref (qa g 111)), (1, .int v1)]) dX8_readPlan_53 rfl (by decide) rfl ?_
  refine q_norm [1, 2, 0] rfl ?_
  refine q_iload_n C 1 dX8_readPlan_54 rfl rfl ?_
  refine q_if_eq (tgt := 73) C h dX8_readPlan_55 (by decide) (fun h => ?_) (fun h => ?_)
  · refine q_norm [0, 2] rfl ?_
    exact W8_readPlan_73 C hr n K20 hK20 t0 S h
  · refine q_iload_n C 2 dX8_readPlan_58 rfl rfl ?_
    refine q_if_eq (tgt := 69) C h dX8_readPlan_59 (by decide) (fun h => ?_) (fun h => ?_)
    · refine q_norm [0, 2] rfl ?_
      exact W8_readPlan_69 C hr n K20 hK20 t0 S h
    · refine q_aload_n C 0 dX8_readPlan_62 rfl rfl ?_
      obtain ⟨r8, S9, hc7, h⟩ := ob2_e h
      refine q_callVi0 C ltp_111 (qmem_o kd_111 (Nat.le_of_ble_eq_true rfl)) rfl rfl (kX8_readBlank S hc7) lm8_136 rfl (rest := []) rfl (Nat.le_of_ble_eq_true rfl) dX8_readPlan_63 ⟨rfl, rfl, Nat.le_of_ble_eq_true rfl, Nat.le_of_ble_eq_true rfl, Nat.le_of_ble_eq_true rfl, Nat.le_of_ble_eq_true rfl⟩ ?_
      refine q_if_eq (tgt := 73) C h dX8_readPlan_66 (by decide) (fun h => ?_) (fun h => ?_)
      · refine q_norm [0, 2] rfl ?_
        exact W8_readPlan_73 C hr n K20 hK20 t0 S9 h
      · refine q_norm [0, 2] rfl ?_
        exact W8_readPlan_69 C hr n K20 hK20 t0 S9 h
def B8_readPlan_52 (n : Nat) (K20 : Int32 → Int32 → qSt → Option (Int32 × qSt)) (v1 : Int32) (S : qSt) : Option (Int32 × qSt) := B8_readPlan_53 n K20 v1 0 S
set_option maxRecDepth 100000 in
set_option maxHeartbeats 4000000 in
theorem W8_readPlan_52 {r : Int32} {S2 : qSt} (C : qC g cX8_readPlan RX8 3 p s m meth c) (hr : meth.sig.returnType = (some .boolean)) (n : Nat) (K20 : Int32 → Int32 → qSt → Option (Int32 × qSt)) (hK20 : ∀ (v1 : Int32) (v2 : Int32) (S : qSt), K20 v1 v2 S = some (r, S2) → qR g NL qT 3 p l e rmX8_readPlan s m args below meth c 0 0 (MQ below (qQi g NL qT (qmem g S2) r) args s 0 0 (qA g)) (qmem g S) 20 [(0, .ref (qa g 111)), (1, .int v1), (2, .int v2)] []) (v1 : Int32) (S : qSt) (h : B8_readPlan_52 n K20 v1 S = some (r, S2)) : qR g NL qT 3 p l e rmX8_readPlan s m args below meth c 0 0 (MQ below (qQi g NL qT (qmem g S2) r) args s 0 0 (qA g)) (qmem g S) 52 [(0, .ref (qa g 111)), (1, .int v1)] [] := by
  unfold B8_readPlan_52 at h
  refine q_iconst (v := 0) C dX8_readPlan_52 (by decide) ?_
  exact W8_readPlan_53 C hr n K20 hK20 v1 0 S h
def B8_readPlan_20 (n : Nat) : Nat → Int32 → Int32 → qSt → Option (Int32 × qSt)
  | 0, _, _, _ => none
  | n9 + 1, v1, v2, S => if v1 = 0 then (if v1 &&& 1 = v1 then some (v1, S) else none) else (if v2 = 0 then (if v1 &&& 1 = v1 then some (v1, S) else none) else (ob2 (F8_readCommand n S) fun r5 S6 => if r5 = 0 then (B8_readPlan_52 n (B8_readPlan_20 n n9) r5 S6) else (if (S6 111 2) ≤ (S6 111 3) then (B8_readPlan_52 n (B8_readPlan_20 n n9) r5 S6) else (B8_readPlan_53 n (B8_readPlan_20 n n9) r5 1 S6))))
set_option maxRecDepth 100000 in
set_option maxHeartbeats 4000000 in
theorem W8_readPlan_20 {r : Int32} {S2 : qSt} (C : qC g cX8_readPlan RX8 3 p s m meth c) (hr : meth.sig.returnType = (some .boolean)) (n : Nat) : ∀ (n9 : Nat) (v1 : Int32) (v2 : Int32) (S : qSt), B8_readPlan_20 n n9 v1 v2 S = some (r, S2) → qR g NL qT 3 p l e rmX8_readPlan s m args below meth c 0 0 (MQ below (qQi g NL qT (qmem g S2) r) args s 0 0 (qA g)) (qmem g S) 20 [(0, .ref (qa g 111)), (1, .int v1), (2, .int v2)] [] := by
  intro n9
  induction n9 with
  | zero =>
    intro v1 v2 S h
    have h9 : (none : Option (Int32 × qSt)) = some (r, S2) := h
    cases h9
  | succ n9 ih =>
    intro v1 v2 S h
    rw [B8_readPlan_20] at h
    refine q_iload_n C 1 dX8_readPlan_20 rfl rfl ?_
    refine q_if_eq (tgt := 78) C h dX8_readPlan_21 (by decide) (fun h => ?_) (fun h => ?_)
    · refine q_iload_n C 1 dX8_readPlan_78 rfl rfl ?_
      obtain ⟨hz2, h⟩ := q_ifp h
      obtain ⟨rfl, rfl⟩ := Prod.mk.inj (Option.some.inj h)
      exact q_zret C hr hz2 (Nat.le_refl 0) (Nat.le_refl 0) dX8_readPlan_79
    · refine q_iload_n C 2 dX8_readPlan_24 rfl rfl ?_
      refine q_if_eq (tgt := 78) C h dX8_readPlan_25 (by decide) (fun h => ?_) (fun h => ?_)
      · refine q_iload_n C 1 dX8_readPlan_78 rfl rfl ?_
        obtain ⟨hz3, h⟩ := q_ifp h
        obtain ⟨rfl, rfl⟩ := Prod.mk.inj (Option.some.inj h)
        exact q_zret C hr hz3 (Nat.le_refl 0) (Nat.le_refl 0) dX8_readPlan_79
      · refine q_aload_n C 0 dX8_readPlan_28 rfl rfl ?_
        obtain ⟨r5, S6, hc4, h⟩ := ob2_e h
        refine q_callVi0 C ltp_111 (qmem_o kd_111 (Nat.le_of_ble_eq_true rfl)) rfl rfl (kX8_readCommand n S hc4) lm8_149 rfl (rest := []) rfl (Nat.le_of_ble_eq_true rfl) dX8_readPlan_29 ⟨rfl, rfl, Nat.le_of_ble_eq_true rfl, Nat.le_of_ble_eq_true rfl, Nat.le_of_ble_eq_true rfl, Nat.le_of_ble_eq_true rfl⟩ ?_
        refine q_istore_n C (lv' := [(1, .int r5), (0, .ref (qa g 111)), (2, .int v2)]) dX8_readPlan_32 rfl (by decide) rfl ?_
        refine q_norm [1, 0, 2] rfl ?_
        refine q_iload_n C 1 dX8_readPlan_33 rfl rfl ?_
        refine q_if_eq (tgt := 52) C h dX8_readPlan_34 (by decide) (fun h => ?_) (fun h => ?_)
        · refine q_norm [0, 1] rfl ?_
          exact W8_readPlan_52 C hr n (B8_readPlan_20 n n9) ih r5 S6 h
        · refine q_aload_n C 0 dX8_readPlan_37 rfl rfl ?_
          refine s_geti C lf8_107 ltp_111 kd_111 dX8_readPlan_38 ?_
          refine q_aload_n C 0 dX8_readPlan_41 rfl rfl ?_
          refine s_geti C lf8_100 ltp_111 kd_111 dX8_readPlan_42 ?_
          refine q_icmp_ge (tgt := 52) C h dX8_readPlan_45 (by decide) (fun h => ?_) (fun h => ?_)
          · refine q_norm [0, 1] rfl ?_
            exact W8_readPlan_52 C hr n (B8_readPlan_20 n n9) ih r5 S6 h
          · refine q_iconst (v := 1) C dX8_readPlan_48 (by decide) ?_
            refine q_goto (tgt := 53) C dX8_readPlan_49 (by decide) ?_
            refine q_norm [0, 1] rfl ?_
            exact W8_readPlan_53 C hr n (B8_readPlan_20 n n9) ih r5 1 S6 h
def B8_readPlan_19 (n : Nat) (v1 : Int32) (t0 : Int32) (S : qSt) : Option (Int32 × qSt) := B8_readPlan_20 n n v1 t0 S
set_option maxRecDepth 100000 in
set_option maxHeartbeats 4000000 in
theorem W8_readPlan_19 {r : Int32} {S2 : qSt} (C : qC g cX8_readPlan RX8 3 p s m meth c) (hr : meth.sig.returnType = (some .boolean)) (n : Nat) (v1 : Int32) (t0 : Int32) (S : qSt) (h : B8_readPlan_19 n v1 t0 S = some (r, S2)) : qR g NL qT 3 p l e rmX8_readPlan s m args below meth c 0 0 (MQ below (qQi g NL qT (qmem g S2) r) args s 0 0 (qA g)) (qmem g S) 19 [(0, .ref (qa g 111)), (1, .int v1)] [.int t0] := by
  unfold B8_readPlan_19 at h
  refine q_istore_n C (lv' := [(2, .int t0), (0, .ref (qa g 111)), (1, .int v1)]) dX8_readPlan_19 rfl (by decide) rfl ?_
  refine q_norm [1, 2, 0] rfl ?_
  exact W8_readPlan_20 C hr n n v1 t0 S h
def F8_readPlan (n : Nat) (S : qSt) : Option (Int32 × qSt) := obs (qup S 111 3 0) fun S1 => if (S1 111 2) ≤ 0 then (B8_readPlan_19 n 1 0 S1) else (B8_readPlan_19 n 1 1 S1)
set_option maxRecDepth 100000 in
set_option maxHeartbeats 4000000 in
theorem kX8_readPlan {l : Launch} {g : qG} (n : Nat) (S : qSt) {r : Int32} {S2 : qSt} (h : F8_readPlan n S = some (r, S2)) : Met l yX8_readPlan [.code yX8_readPlan cX8_readPlan 3 (some .boolean)] rmX8_readPlan (qPc g NL qT (qmem g S) [.ref (qa g 111)]) (qQi g NL qT (qmem g S2) r) 0 0 (qA g) := by
  refine q_met (by decide) (Nat.le_of_ble_eq_true rfl) (fun p e s m args below meth c C hr _ => ?_)
  have C : qC g cX8_readPlan RX8 3 p s m meth c := C
  show qR g NL qT 3 p l e rmX8_readPlan s m args below meth c 0 0 (MQ below (qQi g NL qT (qmem g S2) r) args s 0 0 (qA g)) (qmem g S) 0 [(0, .ref (qa g 111))] []
  unfold F8_readPlan at h
  refine q_aload_n C 0 dX8_readPlan_0 rfl rfl ?_
  refine q_iconst (v := 0) C dX8_readPlan_1 (by decide) ?_
  obtain ⟨S1, hS1, h⟩ := obs_e h
  refine s_puti C lf8_107 ltp_111 kd_111 dX8_readPlan_2 ?_
  rw [← hS1]
  refine q_iconst (v := 1) C dX8_readPlan_5 (by decide) ?_
  refine q_istore_n C (lv' := [(1, .int 1), (0, .ref (qa g 111))]) dX8_readPlan_6 rfl (by decide) rfl ?_
  refine q_norm [1, 0] rfl ?_
  refine q_aload_n C 0 dX8_readPlan_7 rfl rfl ?_
  refine s_geti C lf8_100 ltp_111 kd_111 dX8_readPlan_8 ?_
  refine q_if_le (tgt := 18) C h dX8_readPlan_11 (by decide) (fun h => ?_) (fun h => ?_)
  · refine q_iconst (v := 0) C dX8_readPlan_18 (by decide) ?_
    exact W8_readPlan_19 C hr n 1 0 S1 h
  · refine q_iconst (v := 1) C dX8_readPlan_14 (by decide) ?_
    refine q_goto (tgt := 19) C dX8_readPlan_15 (by decide) ?_
    exact W8_readPlan_19 C hr n 1 1 S1 h
/-! ClosedStreetsModel.errorPosition -/
abbrev rmX8_errorPosition : Room := { frames := 5, cells := 0, slots := 0, locals := 200 }
def B8_errorPosition_15 (n : Nat) (t0 : Int32) (S : qSt) : Option (Int32 × qSt) := if t0 = 0 then (some (S 111 3, S)) else (some ((-999), S))
set_option maxRecDepth 100000 in
set_option maxHeartbeats 4000000 in
theorem W8_errorPosition_15 {r : Int32} {S2 : qSt} (C : qC g cX8_errorPosition RX8 3 p s m meth c) (hr : meth.sig.returnType = (some .int)) (n : Nat) (t0 : Int32) (S : qSt) (h : B8_errorPosition_15 n t0 S = some (r, S2)) : qR g NL qT 3 p l e rmX8_errorPosition s m args below meth c 0 0 (MQ below (qQi g NL qT (qmem g S2) r) args s 0 0 (qA g)) (qmem g S) 15 [(0, .ref (qa g 111))] [.int t0] := by
  unfold B8_errorPosition_15 at h
  refine q_istore_n C (lv' := [(2, .int t0), (0, .ref (qa g 111))]) dX8_errorPosition_15 rfl (by decide) rfl ?_
  refine q_norm [1, 0] rfl ?_
  refine q_iload_n C 1 dX8_errorPosition_16 rfl rfl ?_
  refine q_if_eq (tgt := 26) C h dX8_errorPosition_17 (by decide) (fun h => ?_) (fun h => ?_)
  · refine q_aload_n C 0 dX8_errorPosition_26 rfl rfl ?_
    refine s_geti C lf8_107 ltp_111 kd_111 dX8_errorPosition_27 ?_
    obtain ⟨rfl, rfl⟩ := Prod.mk.inj (Option.some.inj h)
    exact q_iret C hr (Nat.le_refl 0) (Nat.le_refl 0) dX8_errorPosition_30
  · refine q_sipush (v := (-999)) C dX8_errorPosition_20 (by decide) ?_
    refine q_goto (tgt := 30) C dX8_errorPosition_23 (by decide) ?_
    obtain ⟨rfl, rfl⟩ := Prod.mk.inj (Option.some.inj h)
    exact q_iret C hr (Nat.le_refl 0) (Nat.le_refl 0) dX8_errorPosition_30
def F8_errorPosition (n : Nat) (v1 : Int32) (S : qSt) : Option (Int32 × qSt) := if v1 = 0 then (ob2 (F8_readTown n S) fun r2 S3 => B8_errorPosition_15 n r2 S3) else (ob2 (F8_readPlan n S) fun r5 S6 => B8_errorPosition_15 n r5 S6)
set_option maxRecDepth 100000 in
set_option maxHeartbeats 4000000 in
theorem kX8_errorPosition {l : Launch} {g : qG} (n : Nat) (v1 : Int32) (S : qSt) {r : Int32} {S2 : qSt} (h : F8_errorPosition n v1 S = some (r, S2)) : Met l yX8_errorPosition [.code yX8_errorPosition cX8_errorPosition 3 (some .int)] rmX8_errorPosition (qPc g NL qT (qmem g S) [.ref (qa g 111), .int v1]) (qQi g NL qT (qmem g S2) r) 0 0 (qA g) := by
  refine q_met (by decide) (Nat.le_of_ble_eq_true rfl) (fun p e s m args below meth c C hr _ => ?_)
  have C : qC g cX8_errorPosition RX8 3 p s m meth c := C
  show qR g NL qT 3 p l e rmX8_errorPosition s m args below meth c 0 0 (MQ below (qQi g NL qT (qmem g S2) r) args s 0 0 (qA g)) (qmem g S) 0 [(0, .ref (qa g 111)), (1, .int v1)] []
  unfold F8_errorPosition at h
  refine q_iload_n C 1 dX8_errorPosition_0 rfl rfl ?_
  refine q_if_eq (tgt := 11) C h dX8_errorPosition_1 (by decide) (fun h => ?_) (fun h => ?_)
  · refine q_aload_n C 0 dX8_errorPosition_11 rfl rfl ?_
    obtain ⟨r2, S3, hc1, h⟩ := ob2_e h
    refine q_callVi0 C ltp_111 (qmem_o kd_111 (Nat.le_of_ble_eq_true rfl)) rfl rfl (kX8_readTown n S hc1) lm8_155 rfl (rest := []) rfl (Nat.le_of_ble_eq_true rfl) dX8_errorPosition_12 ⟨rfl, rfl, Nat.le_of_ble_eq_true rfl, Nat.le_of_ble_eq_true rfl, Nat.le_of_ble_eq_true rfl, Nat.le_of_ble_eq_true rfl⟩ ?_
    refine q_norm [0] rfl ?_
    exact W8_errorPosition_15 C hr n r2 S3 h
  · refine q_aload_n C 0 dX8_errorPosition_4 rfl rfl ?_
    obtain ⟨r5, S6, hc4, h⟩ := ob2_e h
    refine q_callVi0 C ltp_111 (qmem_o kd_111 (Nat.le_of_ble_eq_true rfl)) rfl rfl (kX8_readPlan n S hc4) lm8_152 rfl (rest := []) rfl (Nat.le_of_ble_eq_true rfl) dX8_errorPosition_5 ⟨rfl, rfl, Nat.le_of_ble_eq_true rfl, Nat.le_of_ble_eq_true rfl, Nat.le_of_ble_eq_true rfl, Nat.le_of_ble_eq_true rfl⟩ ?_
    refine q_goto (tgt := 15) C dX8_errorPosition_8 (by decide) ?_
    refine q_norm [0] rfl ?_
    exact W8_errorPosition_15 C hr n r5 S6 h
/-! ClosedStreetsModel.forget -/
abbrev rmX8_forget : Room := { frames := 0, cells := 0, slots := 0, locals := 0 }
def F8_forget (S : qSt) : Option qSt := some (qup S 111 8 0)
set_option maxRecDepth 100000 in
set_option maxHeartbeats 4000000 in
theorem kX8_forget {l : Launch} {g : qG} (S : qSt) {S2 : qSt} (h : F8_forget S = some S2) : Met l yX8_forget [.code yX8_forget cX8_forget 1 none] rmX8_forget (qPc g NL qT (qmem g S) [.ref (qa g 111)]) (qQv g NL qT (qmem g S2)) 0 0 (qA g) := by
  refine q_met (by decide) (Nat.le_of_ble_eq_true rfl) (fun p e s m args below meth c C hr _ => ?_)
  have C : qC g cX8_forget RX8 1 p s m meth c := C
  show qR g NL qT 1 p l e rmX8_forget s m args below meth c 0 0 (MQ below (qQv g NL qT (qmem g S2)) args s 0 0 (qA g)) (qmem g S) 0 [(0, .ref (qa g 111))] []
  unfold F8_forget at h
  refine q_aload_n C 0 dX8_forget_0 rfl rfl ?_
  refine q_iconst (v := 0) C dX8_forget_1 (by decide) ?_
  refine s_puti C lf8_158 ltp_111 kd_111 dX8_forget_2 ?_
  obtain rfl := Option.some.inj h
  exact q_vret C hr (Nat.le_refl 0) (Nat.le_refl 0) dX8_forget_5
/-! ClosedStreetsModel.load -/
abbrev rmX8_load : Room := { frames := 4, cells := 0, slots := 0, locals := 160 }
def B8_load_13 (n : Nat) (t1 : Int32) (S : qSt) : Option (Int32 × qSt) := ob2 (F8_refused t1 S) fun r5 S6 => if r5 = 0 then (ob1 (F8_copyTown n 113 0 114 0 S6) fun S8 => ob1 (F8_forget S8) fun S10 => obs (qup S10 118 (0 : Int32).toNatClampNeg ((0 : Int32) &&& 1)) fun S11 => obs (qup S11 118 (1 : Int32).toNatClampNeg ((0 : Int32) &&& 1)) fun S12 => some (S12 114 (1 : Int32).toNatClampNeg, S12)) else (some (0, S6))
set_option maxRecDepth 100000 in
set_option maxHeartbeats 4000000 in
theorem W8_load_13 {r : Int32} {S2 : qSt} (C : qC g cX8_load RX8 1 p s m meth c) (hr : meth.sig.returnType = (some .int)) (n : Nat) (t1 : Int32) (S : qSt) (h : B8_load_13 n t1 S = some (r, S2)) : qR g NL qT 1 p l e rmX8_load s m args below meth c 0 0 (MQ below (qQi g NL qT (qmem g S2) r) args s 0 0 (qA g)) (qmem g S) 13 [(0, .ref (qa g 111))] [.int t1, .ref (qa g 111)] := by
  unfold B8_load_13 at h
  obtain ⟨r5, S6, hc4, h⟩ := ob2_e h
  refine q_callVi0 C ltp_111 (qmem_o kd_111 (Nat.le_of_ble_eq_true rfl)) rfl rfl (kX8_refused t1 S hc4) lm8_103 rfl (rest := []) rfl (Nat.le_of_ble_eq_true rfl) dX8_load_13 ⟨rfl, rfl, Nat.le_of_ble_eq_true rfl, Nat.le_of_ble_eq_true rfl, Nat.le_of_ble_eq_true rfl, Nat.le_of_ble_eq_true rfl⟩ ?_
  refine q_if_eq (tgt := 21) C h dX8_load_16 (by decide) (fun h => ?_) (fun h => ?_)
  · refine q_aload_n C 0 dX8_load_21 rfl rfl ?_
    refine s_getr (a := 113) C lf8_13 ltp_111 kd_111 rfl dX8_load_22 ?_
    refine q_iconst (v := 0) C dX8_load_25 (by decide) ?_
    refine q_aload_n C 0 dX8_load_26 rfl rfl ?_
    refine s_getr (a := 114) C lf8_16 ltp_111 kd_111 rfl dX8_load_27 ?_
    refine q_iconst (v := 0) C dX8_load_30 (by decide) ?_
    obtain ⟨S8, hc7, h⟩ := ob1_e h
    refine q_callSv0 C (kX8_copyTown n 113 (tyI_113) 0 114 (tyI_114) 0 S6 hc7) lm8_161 rfl (rest := []) rfl (Nat.le_of_ble_eq_true rfl) dX8_load_31 ⟨rfl, rfl, Nat.le_of_ble_eq_true rfl, Nat.le_of_ble_eq_true rfl, Nat.le_of_ble_eq_true rfl, Nat.le_of_ble_eq_true rfl⟩ ?_
    refine q_aload_n C 0 dX8_load_34 rfl rfl ?_
    obtain ⟨S10, hc9, h⟩ := ob1_e h
    refine q_callVv0 C ltp_111 (qmem_o kd_111 (Nat.le_of_ble_eq_true rfl)) rfl rfl (kX8_forget S8 hc9) lm8_165 rfl (rest := []) rfl (Nat.le_of_ble_eq_true rfl) dX8_load_35 ⟨rfl, rfl, Nat.le_of_ble_eq_true rfl, Nat.le_of_ble_eq_true rfl, Nat.le_of_ble_eq_true rfl, Nat.le_of_ble_eq_true rfl⟩ ?_
    refine q_aload_n C 0 dX8_load_38 rfl rfl ?_
    refine s_getr (a := 118) C lf8_28 ltp_111 kd_111 rfl dX8_load_39 ?_
    refine q_iconst (v := 0) C dX8_load_42 (by decide) ?_
    refine q_iconst (v := 0) C dX8_load_43 (by decide) ?_
    obtain ⟨S11, hS11, h⟩ := obs_e h
    refine s_zast C ltp_118 kd_118 (by decide) dX8_load_44 ?_
    rw [← hS11]
    refine q_aload_n C 0 dX8_load_45 rfl rfl ?_
    refine s_getr (a := 118) C lf8_28 ltp_111 kd_111 rfl dX8_load_46 ?_
    refine q_iconst (v := 1) C dX8_load_49 (by decide) ?_
    refine q_iconst (v := 0) C dX8_load_50 (by decide) ?_
    obtain ⟨S12, hS12, h⟩ := obs_e h
    refine s_zast C ltp_118 kd_118 (by decide) dX8_load_51 ?_
    rw [← hS12]
    refine q_aload_n C 0 dX8_load_52 rfl rfl ?_
    refine s_getr (a := 114) C lf8_16 ltp_111 kd_111 rfl dX8_load_53 ?_
    refine q_iconst (v := 1) C dX8_load_56 (by decide) ?_
    refine s_iald C ltp_114 kd_114 (by decide) dX8_load_57 ?_
    obtain ⟨rfl, rfl⟩ := Prod.mk.inj (Option.some.inj h)
    exact q_iret C hr (Nat.le_refl 0) (Nat.le_refl 0) dX8_load_58
  · refine q_iconst (v := 0) C dX8_load_19 (by decide) ?_
    obtain ⟨rfl, rfl⟩ := Prod.mk.inj (Option.some.inj h)
    exact q_iret C hr (Nat.le_refl 0) (Nat.le_refl 0) dX8_load_20
def F8_load (n : Nat) (S : qSt) : Option (Int32 × qSt) := ob2 (F8_readTown n S) fun r2 S3 => if r2 = 0 then (B8_load_13 n 1 S3) else (B8_load_13 n 0 S3)
set_option maxRecDepth 100000 in
set_option maxHeartbeats 4000000 in
theorem kX8_load {l : Launch} {g : qG} (n : Nat) (S : qSt) {r : Int32} {S2 : qSt} (h : F8_load n S = some (r, S2)) : Met l yX8_load [.code yX8_load cX8_load 1 (some .int)] rmX8_load (qPc g NL qT (qmem g S) [.ref (qa g 111)]) (qQi g NL qT (qmem g S2) r) 0 0 (qA g) := by
  refine q_met (by decide) (Nat.le_of_ble_eq_true rfl) (fun p e s m args below meth c C hr _ => ?_)
  have C : qC g cX8_load RX8 1 p s m meth c := C
  show qR g NL qT 1 p l e rmX8_load s m args below meth c 0 0 (MQ below (qQi g NL qT (qmem g S2) r) args s 0 0 (qA g)) (qmem g S) 0 [(0, .ref (qa g 111))] []
  unfold F8_load at h
  refine q_aload_n C 0 dX8_load_0 rfl rfl ?_
  refine q_aload_n C 0 dX8_load_1 rfl rfl ?_
  obtain ⟨r2, S3, hc1, h⟩ := ob2_e h
  refine q_callVi0 C ltp_111 (qmem_o kd_111 (Nat.le_of_ble_eq_true rfl)) rfl rfl (kX8_readTown n S hc1) lm8_155 rfl (rest := [.ref (qa g 111)]) rfl (Nat.le_of_ble_eq_true rfl) dX8_load_2 ⟨rfl, rfl, Nat.le_of_ble_eq_true rfl, Nat.le_of_ble_eq_true rfl, Nat.le_of_ble_eq_true rfl, Nat.le_of_ble_eq_true rfl⟩ ?_
  refine q_if_eq (tgt := 12) C h dX8_load_5 (by decide) (fun h => ?_) (fun h => ?_)
  · refine q_iconst (v := 1) C dX8_load_12 (by decide) ?_
    exact W8_load_13 C hr n 1 S3 h
  · refine q_iconst (v := 0) C dX8_load_8 (by decide) ?_
    refine q_goto (tgt := 13) C dX8_load_9 (by decide) ?_
    exact W8_load_13 C hr n 0 S3 h
/-! ClosedStreetsModel.about -/
abbrev rmX8_about : Room := { frames := 4, cells := 0, slots := 0, locals := 160 }
def B8_about_250 (n : Nat) (K200 : Int32 → Int32 → Int32 → qSt → Option (Int32 × qSt)) (v3 : Int32) (v4 : Int32) (t0 : Int32) (t1 : Int32) (S : qSt) : Option (Int32 × qSt) := K200 (t0 + t1) v3 (v4 + 1) S
set_option maxRecDepth 100000 in
set_option maxHeartbeats 4000000 in
theorem W8_about_250 {r : Int32} {S2 : qSt} (C : qC g cX8_about RX8 5 p s m meth c) (hr : meth.sig.returnType = (some .int)) (n : Nat) (K200 : Int32 → Int32 → Int32 → qSt → Option (Int32 × qSt)) (hK200 : ∀ (v2 : Int32) (v3 : Int32) (v4 : Int32) (S : qSt), K200 v2 v3 v4 S = some (r, S2) → qR g NL qT 5 p l e rmX8_about s m args below meth c 0 0 (MQ below (qQi g NL qT (qmem g S2) r) args s 0 0 (qA g)) (qmem g S) 200 [(0, .ref (qa g 111)), (2, .int v2), (3, .int v3), (4, .int v4)] []) (v3 : Int32) (v4 : Int32) (t0 : Int32) (t1 : Int32) (S : qSt) (h : B8_about_250 n K200 v3 v4 t0 t1 S = some (r, S2)) : qR g NL qT 5 p l e rmX8_about s m args below meth c 0 0 (MQ below (qQi g NL qT (qmem g S2) r) args s 0 0 (qA g)) (qmem g S) 250 [(0, .ref (qa g 111)), (3, .int v3), (4, .int v4)] [.int t1, .int t0] := by
  unfold B8_about_250 at h
  refine q_iadd C dX8_about_250 ?_
  refine q_istore_n C (lv' := [(2, .int (t0 + t1)), (0, .ref (qa g 111)), (3, .int v3), (4, .int v4)]) dX8_about_251 rfl (by decide) rfl ?_
  refine q_norm [1, 0, 2, 3] rfl ?_
  refine q_iinc C 3 (v := v4 + 1) (lv' := [(4, .int (v4 + 1)), (0, .ref (qa g 111)), (2, .int (t0 + t1)), (3, .int v3)]) dX8_about_252 rfl rfl (by decide) rfl ?_
  refine q_norm [1, 2, 3, 0] rfl ?_
  refine q_goto (tgt := 200) C dX8_about_255 (by decide) ?_
  exact hK200 (t0 + t1) v3 (v4 + 1) S h
def B8_about_249 (n : Nat) (K200 : Int32 → Int32 → Int32 → qSt → Option (Int32 × qSt)) (v3 : Int32) (v4 : Int32) (t0 : Int32) (S : qSt) : Option (Int32 × qSt) := B8_about_250 n K200 v3 v4 t0 0 S
set_option maxRecDepth 100000 in
set_option maxHeartbeats 4000000 in
theorem W8_about_249 {r : Int32} {S2 : qSt} (C : qC g cX8_about RX8 5 p s m meth c) (hr : meth.sig.returnType = (some .int)) (n : Nat) (K200 : Int32 → Int32 → Int32 → qSt → Option (Int32 × qSt)) (hK200 : ∀ (v2 : Int32) (v3 : Int32) (v4 : Int32) (S : qSt), K200 v2 v3 v4 S = some (r, S2) → qR g NL qT 5 p l e rmX8_about s m args below meth c 0 0 (MQ below (qQi g NL qT (qmem g S2) r) args s 0 0 (qA g)) (qmem g S) 200 [(0, .ref (qa g 111)), (2, .int v2), (3, .int v3), (4, .int v4)] []) (v3 : Int32) (v4 : Int32) (t0 : Int32) (S : qSt) (h : B8_about_249 n K200 v3 v4 t0 S = some (r, S2)) : qR g NL qT 5 p l e rmX8_about s m args below meth c 0 0 (MQ below (qQi g NL qT (qmem g S2) r) args s 0 0 (qA g)) (qmem g S) 249 [(0, .ref (qa g 111)), (3, .int v3), (4, .int v4)] [.int t0] := by
  unfold B8_about_249 at h
  refine q_iconst (v := 0) C dX8_about_249 (by decide) ?_
  exact W8_about_250 C hr n K200 hK200 v3 v4 t0 0 S h
def B8_about_200 (n : Nat) : Nat → Int32 → Int32 → Int32 → qSt → Option (Int32 × qSt)
  | 0, _, _, _, _ => none
  | n9 + 1, v2, v3, v4, S => if (S 114 (1 : Int32).toNatClampNeg) ≤ v4 then (some (v2, S)) else (if v3 = 0 then (some (v2, S)) else (if qin (64 + v4) 84 = true then if ¬ (S 114 (64 + v4).toNatClampNeg) = 0 then (B8_about_249 n (B8_about_200 n n9) v3 v4 v2 S) else (ob2 (F8_bestBut n 114 v4 S) fun r16 S17 => if ¬ r16 = (-999) then (B8_about_249 n (B8_about_200 n n9) v3 v4 v2 S17) else (B8_about_250 n (B8_about_200 n n9) v3 v4 v2 1 S17)) else none))
set_option maxRecDepth 100000 in
set_option maxHeartbeats 4000000 in
theorem W8_about_200 {r : Int32} {S2 : qSt} (C : qC g cX8_about RX8 5 p s m meth c) (hr : meth.sig.returnType = (some .int)) (n : Nat) : ∀ (n9 : Nat) (v2 : Int32) (v3 : Int32) (v4 : Int32) (S : qSt), B8_about_200 n n9 v2 v3 v4 S = some (r, S2) → qR g NL qT 5 p l e rmX8_about s m args below meth c 0 0 (MQ below (qQi g NL qT (qmem g S2) r) args s 0 0 (qA g)) (qmem g S) 200 [(0, .ref (qa g 111)), (2, .int v2), (3, .int v3), (4, .int v4)] [] := by
  intro n9
  induction n9 with
  | zero =>
    intro v2 v3 v4 S h
    have h9 : (none : Option (Int32 × qSt)) = some (r, S2) := h
    cases h9
  | succ n9 ih =>
    intro v2 v3 v4 S h
    rw [B8_about_200] at h
    refine q_iload C 3 dX8_about_200 rfl ?_
    refine q_aload_n C 0 dX8_about_202 rfl rfl ?_
    refine s_getr (a := 114) C lf8_16 ltp_111 kd_111 rfl dX8_about_203 ?_
    refine q_iconst (v := 1) C dX8_about_206 (by decide) ?_
    refine s_iald C ltp_114 kd_114 (by decide) dX8_about_207 ?_
    refine q_icmp_ge (tgt := 258) C h dX8_about_208 (by decide) (fun h => ?_) (fun h => ?_)
    · refine q_iload_n C 1 dX8_about_258 rfl rfl ?_
      obtain ⟨rfl, rfl⟩ := Prod.mk.inj (Option.some.inj h)
      exact q_iret C hr (Nat.le_refl 0) (Nat.le_refl 0) dX8_about_259
    · refine q_iload_n C 2 dX8_about_211 rfl rfl ?_
      refine q_if_eq (tgt := 258) C h dX8_about_212 (by decide) (fun h => ?_) (fun h => ?_)
      · refine q_iload_n C 1 dX8_about_258 rfl rfl ?_
        obtain ⟨rfl, rfl⟩ := Prod.mk.inj (Option.some.inj h)
        exact q_iret C hr (Nat.le_refl 0) (Nat.le_refl 0) dX8_about_259
      · refine q_iload_n C 1 dX8_about_215 rfl rfl ?_
        refine q_aload_n C 0 dX8_about_216 rfl rfl ?_
        refine s_getr (a := 114) C lf8_16 ltp_111 kd_111 rfl dX8_about_217 ?_
        refine q_bipush (v := 64) C dX8_about_220 (by decide) ?_
        refine q_iload C 3 dX8_about_222 rfl ?_
        refine q_iadd C dX8_about_224 ?_
        obtain ⟨hb14, h⟩ := q_if h
        refine s_iald C ltp_114 kd_114 hb14 dX8_about_225 ?_
        refine q_if_ne (tgt := 249) C h dX8_about_226 (by decide) (fun h => ?_) (fun h => ?_)
        · refine q_norm [0, 2, 3] rfl ?_
          exact W8_about_249 C hr n (B8_about_200 n n9) ih v3 v4 v2 S h
        · refine q_aload_n C 0 dX8_about_229 rfl rfl ?_
          refine q_aload_n C 0 dX8_about_230 rfl rfl ?_
          refine s_getr (a := 114) C lf8_16 ltp_111 kd_111 rfl dX8_about_231 ?_
          refine q_iload C 3 dX8_about_234 rfl ?_
          obtain ⟨r16, S17, hc15, h⟩ := ob2_e h
          refine q_callVi0 C ltp_111 (qmem_o kd_111 (Nat.le_of_ble_eq_true rfl)) rfl rfl (kX8_bestBut n 114 (tyI_114) v4 S hc15) lm8_88 rfl (rest := [.int v2]) rfl (Nat.le_of_ble_eq_true rfl) dX8_about_236 ⟨rfl, rfl, Nat.le_of_ble_eq_true rfl, Nat.le_of_ble_eq_true rfl, Nat.le_of_ble_eq_true rfl, Nat.le_of_ble_eq_true rfl⟩ ?_
          refine q_sipush (v := (-999)) C dX8_about_239 (by decide) ?_
          refine q_icmp_ne (tgt := 249) C h dX8_about_242 (by decide) (fun h => ?_) (fun h => ?_)
          · refine q_norm [0, 2, 3] rfl ?_
            exact W8_about_249 C hr n (B8_about_200 n n9) ih v3 v4 v2 S17 h
          · refine q_iconst (v := 1) C dX8_about_245 (by decide) ?_
            refine q_goto (tgt := 250) C dX8_about_246 (by decide) ?_
            refine q_norm [0, 2, 3] rfl ?_
            exact W8_about_250 C hr n (B8_about_200 n n9) ih v3 v4 v2 1 S17 h
def B8_about_196 (n : Nat) (v2 : Int32) (t0 : Int32) (S : qSt) : Option (Int32 × qSt) := B8_about_200 n n v2 t0 0 S
set_option maxRecDepth 100000 in
set_option maxHeartbeats 4000000 in
theorem W8_about_196 {r : Int32} {S2 : qSt} (C : qC g cX8_about RX8 5 p s m meth c) (hr : meth.sig.returnType = (some .int)) (n : Nat) (v2 : Int32) (t0 : Int32) (S : qSt) (h : B8_about_196 n v2 t0 S = some (r, S2)) : qR g NL qT 5 p l e rmX8_about s m args below meth c 0 0 (MQ below (qQi g NL qT (qmem g S2) r) args s 0 0 (qA g)) (qmem g S) 196 [(0, .ref (qa g 111)), (2, .int v2)] [.int t0] := by
  unfold B8_about_196 at h
  refine q_istore_n C (lv' := [(3, .int t0), (0, .ref (qa g 111)), (2, .int v2)]) dX8_about_196 rfl (by decide) rfl ?_
  refine q_norm [1, 2, 0] rfl ?_
  refine q_iconst (v := 0) C dX8_about_197 (by decide) ?_
  refine q_istore C (lv' := [(4, .int 0), (0, .ref (qa g 111)), (2, .int v2), (3, .int t0)]) dX8_about_198 (by decide) rfl ?_
  refine q_norm [1, 2, 3, 0] rfl ?_
  exact W8_about_200 C hr n n v2 t0 0 S h
def B8_about_88 (n : Nat) : Nat → Int32 → Int32 → qSt → Option (Int32 × qSt)
  | 0, _, _, _ => none
  | n9 + 1, v2, v3, S => if (S 114 (1 : Int32).toNatClampNeg) ≤ v3 then (some (v2, S)) else (if qin (64 + v3) 84 = true then obs (v2 + (S 114 (64 + v3).toNatClampNeg)) fun x19 => (B8_about_88 n n9) x19 (v3 + 1) S else none)
set_option maxRecDepth 100000 in
set_option maxHeartbeats 4000000 in
theorem W8_about_88 {r : Int32} {S2 : qSt} (C : qC g cX8_about RX8 5 p s m meth c) (hr : meth.sig.returnType = (some .int)) (n : Nat) : ∀ (n9 : Nat) (v2 : Int32) (v3 : Int32) (S : qSt), B8_about_88 n n9 v2 v3 S = some (r, S2) → qR g NL qT 5 p l e rmX8_about s m args below meth c 0 0 (MQ below (qQi g NL qT (qmem g S2) r) args s 0 0 (qA g)) (qmem g S) 88 [(0, .ref (qa g 111)), (2, .int v2), (3, .int v3)] [] := by
  intro n9
  induction n9 with
  | zero =>
    intro v2 v3 S h
    have h9 : (none : Option (Int32 × qSt)) = some (r, S2) := h
    cases h9
  | succ n9 ih =>
    intro v2 v3 S h
    rw [B8_about_88] at h
    refine q_iload_n C 2 dX8_about_88 rfl rfl ?_
    refine q_aload_n C 0 dX8_about_89 rfl rfl ?_
    refine s_getr (a := 114) C lf8_16 ltp_111 kd_111 rfl dX8_about_90 ?_
    refine q_iconst (v := 1) C dX8_about_93 (by decide) ?_
    refine s_iald C ltp_114 kd_114 (by decide) dX8_about_94 ?_
    refine q_icmp_ge (tgt := 116) C h dX8_about_95 (by decide) (fun h => ?_) (fun h => ?_)
    · refine q_iload_n C 1 dX8_about_116 rfl rfl ?_
      obtain ⟨rfl, rfl⟩ := Prod.mk.inj (Option.some.inj h)
      exact q_iret C hr (Nat.le_refl 0) (Nat.le_refl 0) dX8_about_117
    · refine q_iload_n C 1 dX8_about_98 rfl rfl ?_
      refine q_aload_n C 0 dX8_about_99 rfl rfl ?_
      refine s_getr (a := 114) C lf8_16 ltp_111 kd_111 rfl dX8_about_100 ?_
      refine q_bipush (v := 64) C dX8_about_103 (by decide) ?_
      refine q_iload_n C 2 dX8_about_105 rfl rfl ?_
      refine q_iadd C dX8_about_106 ?_
      obtain ⟨hb18, h⟩ := q_if h
      refine s_iald C ltp_114 kd_114 hb18 dX8_about_107 ?_
      refine q_iadd C dX8_about_108 ?_
      obtain ⟨x19, hx19, h⟩ := obs_e h
      rw [← hx19]
      refine q_istore_n C (lv' := [(2, .int x19), (0, .ref (qa g 111)), (3, .int v3)]) dX8_about_109 rfl (by decide) rfl ?_
      refine q_norm [1, 0, 2] rfl ?_
      refine q_iinc C 2 (v := v3 + 1) (lv' := [(3, .int (v3 + 1)), (0, .ref (qa g 111)), (2, .int x19)]) dX8_about_110 rfl rfl (by decide) rfl ?_
      refine q_norm [1, 2, 0] rfl ?_
      refine q_goto (tgt := 88) C dX8_about_113 (by decide) ?_
      exact ih x19 (v3 + 1) S h
def B8_about_18 (n : Nat) (v1 : Int32) (t1 : Int32) (S : qSt) : Option (Int32 × qSt) := ob2 (F8_refused t1 S) fun r2 S3 => if r2 = 0 then (if v1 = 0 then (some (S3 114 (0 : Int32).toNatClampNeg, S3)) else if v1 = 1 then (some (S3 114 (1 : Int32).toNatClampNeg, S3)) else if v1 = 2 then (B8_about_88 n n 0 0 S3) else if v1 = 3 then (some (S3 114 (2 : Int32).toNatClampNeg, S3)) else if v1 = 4 then (some (S3 114 (3 : Int32).toNatClampNeg, S3)) else if v1 = 5 then (ob2 (F8_bestBut n 114 (-999) S3) fun r21 S22 => some (r21, S22)) else if v1 = 6 then (ob2 (F8_layWay n 114 (-999) S3) fun r24 S25 => if ¬ r24 = (-999) then (some ((S25 111 15) - 1, S25)) else (some ((-999), S25))) else (ob2 (F8_bestBut n 114 (-999) S3) fun r12 S13 => if r12 = (-999) then (B8_about_196 n 0 0 S13) else (B8_about_196 n 0 1 S13))) else (some (0, S3))
set_option maxRecDepth 100000 in
set_option maxHeartbeats 4000000 in
theorem W8_about_18 {r : Int32} {S2 : qSt} (C : qC g cX8_about RX8 5 p s m meth c) (hr : meth.sig.returnType = (some .int)) (n : Nat) (v1 : Int32) (t1 : Int32) (S : qSt) (h : B8_about_18 n v1 t1 S = some (r, S2)) : qR g NL qT 5 p l e rmX8_about s m args below meth c 0 0 (MQ below (qQi g NL qT (qmem g S2) r) args s 0 0 (qA g)) (qmem g S) 18 [(0, .ref (qa g 111)), (1, .int v1)] [.int t1, .ref (qa g 111)] := by
  unfold B8_about_18 at h
  obtain ⟨r2, S3, hc1, h⟩ := ob2_e h
  refine q_callVi0 C ltp_111 (qmem_o kd_111 (Nat.le_of_ble_eq_true rfl)) rfl rfl (kX8_refused t1 S hc1) lm8_103 rfl (rest := []) rfl (Nat.le_of_ble_eq_true rfl) dX8_about_18 ⟨rfl, rfl, Nat.le_of_ble_eq_true rfl, Nat.le_of_ble_eq_true rfl, Nat.le_of_ble_eq_true rfl, Nat.le_of_ble_eq_true rfl⟩ ?_
  refine q_if_eq (tgt := 26) C h dX8_about_21 (by decide) (fun h => ?_) (fun h => ?_)
  · refine q_iconst (v := 0) C dX8_about_26 (by decide) ?_
    refine q_istore_n C (lv' := [(2, .int 0), (0, .ref (qa g 111)), (1, .int v1)]) dX8_about_27 rfl (by decide) rfl ?_
    refine q_norm [1, 2, 0] rfl ?_
    refine q_iload_n C 1 dX8_about_28 rfl rfl ?_
    rcases q_ite h with ⟨q4, h⟩ | ⟨q4, h⟩
    · refine q_tableIn (off := 43) (tgt := 72) C dX8_about_29 (by rw [q4]; decide) (by rw [q4]; decide) (by rw [q4]; rfl) (by decide) ?_
      refine q_aload_n C 0 dX8_about_72 rfl rfl ?_
      refine s_getr (a := 114) C lf8_16 ltp_111 kd_111 rfl dX8_about_73 ?_
      refine q_iconst (v := 0) C dX8_about_76 (by decide) ?_
      refine s_iald C ltp_114 kd_114 (by decide) dX8_about_77 ?_
      obtain ⟨rfl, rfl⟩ := Prod.mk.inj (Option.some.inj h)
      exact q_iret C hr (Nat.le_refl 0) (Nat.le_refl 0) dX8_about_78
    rcases q_ite h with ⟨q5, h⟩ | ⟨q5, h⟩
    · refine q_tableIn (off := 50) (tgt := 79) C dX8_about_29 (by rw [q5]; decide) (by rw [q5]; decide) (by rw [q5]; rfl) (by decide) ?_
      refine q_aload_n C 0 dX8_about_79 rfl rfl ?_
      refine s_getr (a := 114) C lf8_16 ltp_111 kd_111 rfl dX8_about_80 ?_
      refine q_iconst (v := 1) C dX8_about_83 (by decide) ?_
      refine s_iald C ltp_114 kd_114 (by decide) dX8_about_84 ?_
      obtain ⟨rfl, rfl⟩ := Prod.mk.inj (Option.some.inj h)
      exact q_iret C hr (Nat.le_refl 0) (Nat.le_refl 0) dX8_about_85
    rcases q_ite h with ⟨q6, h⟩ | ⟨q6, h⟩
    · refine q_tableIn (off := 57) (tgt := 86) C dX8_about_29 (by rw [q6]; decide) (by rw [q6]; decide) (by rw [q6]; rfl) (by decide) ?_
      refine q_iconst (v := 0) C dX8_about_86 (by decide) ?_
      refine q_istore_n C (lv' := [(3, .int 0), (0, .ref (qa g 111)), (1, .int v1), (2, .int 0)]) dX8_about_87 rfl (by decide) rfl ?_
      refine q_norm [1, 2, 3, 0] rfl ?_
      refine q_norm [0, 2, 3] rfl ?_
      exact W8_about_88 C hr n n 0 0 S3 h
    rcases q_ite h with ⟨q7, h⟩ | ⟨q7, h⟩
    · refine q_tableIn (off := 89) (tgt := 118) C dX8_about_29 (by rw [q7]; decide) (by rw [q7]; decide) (by rw [q7]; rfl) (by decide) ?_
      refine q_aload_n C 0 dX8_about_118 rfl rfl ?_
      refine s_getr (a := 114) C lf8_16 ltp_111 kd_111 rfl dX8_about_119 ?_
      refine q_iconst (v := 2) C dX8_about_122 (by decide) ?_
      refine s_iald C ltp_114 kd_114 (by decide) dX8_about_123 ?_
      obtain ⟨rfl, rfl⟩ := Prod.mk.inj (Option.some.inj h)
      exact q_iret C hr (Nat.le_refl 0) (Nat.le_refl 0) dX8_about_124
    rcases q_ite h with ⟨q8, h⟩ | ⟨q8, h⟩
    · refine q_tableIn (off := 96) (tgt := 125) C dX8_about_29 (by rw [q8]; decide) (by rw [q8]; decide) (by rw [q8]; rfl) (by decide) ?_
      refine q_aload_n C 0 dX8_about_125 rfl rfl ?_
      refine s_getr (a := 114) C lf8_16 ltp_111 kd_111 rfl dX8_about_126 ?_
      refine q_iconst (v := 3) C dX8_about_129 (by decide) ?_
      refine s_iald C ltp_114 kd_114 (by decide) dX8_about_130 ?_
      obtain ⟨rfl, rfl⟩ := Prod.mk.inj (Option.some.inj h)
      exact q_iret C hr (Nat.le_refl 0) (Nat.le_refl 0) dX8_about_131
    rcases q_ite h with ⟨q9, h⟩ | ⟨q9, h⟩
    · refine q_tableIn (off := 103) (tgt := 132) C dX8_about_29 (by rw [q9]; decide) (by rw [q9]; decide) (by rw [q9]; rfl) (by decide) ?_
      refine q_aload_n C 0 dX8_about_132 rfl rfl ?_
      refine q_aload_n C 0 dX8_about_133 rfl rfl ?_
      refine s_getr (a := 114) C lf8_16 ltp_111 kd_111 rfl dX8_about_134 ?_
      refine q_sipush (v := (-999)) C dX8_about_137 (by decide) ?_
      obtain ⟨r21, S22, hc20, h⟩ := ob2_e h
      refine q_callVi0 C ltp_111 (qmem_o kd_111 (Nat.le_of_ble_eq_true rfl)) rfl rfl (kX8_bestBut n 114 (tyI_114) (-999) S3 hc20) lm8_88 rfl (rest := []) rfl (Nat.le_of_ble_eq_true rfl) dX8_about_140 ⟨rfl, rfl, Nat.le_of_ble_eq_true rfl, Nat.le_of_ble_eq_true rfl, Nat.le_of_ble_eq_true rfl, Nat.le_of_ble_eq_true rfl⟩ ?_
      obtain ⟨rfl, rfl⟩ := Prod.mk.inj (Option.some.inj h)
      exact q_iret C hr (Nat.le_refl 0) (Nat.le_refl 0) dX8_about_143
    rcases q_ite h with ⟨q10, h⟩ | ⟨q10, h⟩
    · refine q_tableIn (off := 115) (tgt := 144) C dX8_about_29 (by rw [q10]; decide) (by rw [q10]; decide) (by rw [q10]; rfl) (by decide) ?_
      refine q_aload_n C 0 dX8_about_144 rfl rfl ?_
      refine q_aload_n C 0 dX8_about_145 rfl rfl ?_
      refine s_getr (a := 114) C lf8_16 ltp_111 kd_111 rfl dX8_about_146 ?_
      refine q_sipush (v := (-999)) C dX8_about_149 (by decide) ?_
      obtain ⟨r24, S25, hc23, h⟩ := ob2_e h
      refine q_callVi0 C ltp_111 (qmem_o kd_111 (Nat.le_of_ble_eq_true rfl)) rfl rfl (kX8_layWay n 114 (tyI_114) (-999) S3 hc23) lm8_170 rfl (rest := []) rfl (Nat.le_of_ble_eq_true rfl) dX8_about_152 ⟨rfl, rfl, Nat.le_of_ble_eq_true rfl, Nat.le_of_ble_eq_true rfl, Nat.le_of_ble_eq_true rfl, Nat.le_of_ble_eq_true rfl⟩ ?_
      refine q_sipush (v := (-999)) C dX8_about_155 (by decide) ?_
      refine q_icmp_ne (tgt := 167) C h dX8_about_158 (by decide) (fun h => ?_) (fun h => ?_)
      · refine q_aload_n C 0 dX8_about_167 rfl rfl ?_
        refine s_geti C lf8_92 ltp_111 kd_111 dX8_about_168 ?_
        refine q_iconst (v := 1) C dX8_about_171 (by decide) ?_
        refine q_isub C dX8_about_172 ?_
        obtain ⟨rfl, rfl⟩ := Prod.mk.inj (Option.some.inj h)
        exact q_iret C hr (Nat.le_refl 0) (Nat.le_refl 0) dX8_about_173
      · refine q_sipush (v := (-999)) C dX8_about_161 (by decide) ?_
        refine q_goto (tgt := 173) C dX8_about_164 (by decide) ?_
        obtain ⟨rfl, rfl⟩ := Prod.mk.inj (Option.some.inj h)
        exact q_iret C hr (Nat.le_refl 0) (Nat.le_refl 0) dX8_about_173
    refine q_tableOut (tgt := 174) C dX8_about_29 (by have q4 := q_ne (k := 0) (by decide) q4; have q5 := q_ne (k := 1) (by decide) q5; have q6 := q_ne (k := 2) (by decide) q6; have q7 := q_ne (k := 3) (by decide) q7; have q8 := q_ne (k := 4) (by decide) q8; have q9 := q_ne (k := 5) (by decide) q9; have q10 := q_ne (k := 6) (by decide) q10; omega) (by decide) ?_
    refine q_aload_n C 0 dX8_about_174 rfl rfl ?_
    refine q_aload_n C 0 dX8_about_175 rfl rfl ?_
    refine s_getr (a := 114) C lf8_16 ltp_111 kd_111 rfl dX8_about_176 ?_
    refine q_sipush (v := (-999)) C dX8_about_179 (by decide) ?_
    obtain ⟨r12, S13, hc11, h⟩ := ob2_e h
    refine q_callVi0 C ltp_111 (qmem_o kd_111 (Nat.le_of_ble_eq_true rfl)) rfl rfl (kX8_bestBut n 114 (tyI_114) (-999) S3 hc11) lm8_88 rfl (rest := []) rfl (Nat.le_of_ble_eq_true rfl) dX8_about_182 ⟨rfl, rfl, Nat.le_of_ble_eq_true rfl, Nat.le_of_ble_eq_true rfl, Nat.le_of_ble_eq_true rfl, Nat.le_of_ble_eq_true rfl⟩ ?_
    refine q_sipush (v := (-999)) C dX8_about_185 (by decide) ?_
    refine q_icmp_eq (tgt := 195) C h dX8_about_188 (by decide) (fun h => ?_) (fun h => ?_)
    · refine q_iconst (v := 0) C dX8_about_195 (by decide) ?_
      refine q_norm [0, 2] rfl ?_
      exact W8_about_196 C hr n 0 0 S13 h
    · refine q_iconst (v := 1) C dX8_about_191 (by decide) ?_
      refine q_goto (tgt := 196) C dX8_about_192 (by decide) ?_
      refine q_norm [0, 2] rfl ?_
      exact W8_about_196 C hr n 0 1 S13 h
  · refine q_iconst (v := 0) C dX8_about_24 (by decide) ?_
    obtain ⟨rfl, rfl⟩ := Prod.mk.inj (Option.some.inj h)
    exact q_iret C hr (Nat.le_refl 0) (Nat.le_refl 0) dX8_about_25
def F8_about (n : Nat) (v1 : Int32) (S : qSt) : Option (Int32 × qSt) := if (F8_in v1.toInt64 0 7 S) = 0 then (B8_about_18 n v1 1 S) else (B8_about_18 n v1 0 S)
set_option maxRecDepth 100000 in
set_option maxHeartbeats 4000000 in
theorem kX8_about {l : Launch} {g : qG} (n : Nat) (v1 : Int32) (S : qSt) {r : Int32} {S2 : qSt} (h : F8_about n v1 S = some (r, S2)) : Met l yX8_about [.code yX8_about cX8_about 5 (some .int)] rmX8_about (qPc g NL qT (qmem g S) [.ref (qa g 111), .int v1]) (qQi g NL qT (qmem g S2) r) 0 0 (qA g) := by
  refine q_met (by decide) (Nat.le_of_ble_eq_true rfl) (fun p e s m args below meth c C hr _ => ?_)
  have C : qC g cX8_about RX8 5 p s m meth c := C
  show qR g NL qT 5 p l e rmX8_about s m args below meth c 0 0 (MQ below (qQi g NL qT (qmem g S2) r) args s 0 0 (qA g)) (qmem g S) 0 [(0, .ref (qa g 111)), (1, .int v1)] []
  unfold F8_about at h
  refine q_aload_n C 0 dX8_about_0 rfl rfl ?_
  refine q_iload_n C 1 dX8_about_1 rfl rfl ?_
  refine q_i2l C dX8_about_2 rfl ?_
  refine q_lconst (v := 0) C dX8_about_3 (by decide) ?_
  refine q_ldc2 (v := 7) C lc8_168 dX8_about_4 ?_
  refine q_callSi0 C (kX8_in v1.toInt64 0 7 S) lm8_65 rfl (rest := [.ref (qa g 111)]) rfl (Nat.le_of_ble_eq_true rfl) dX8_about_7 ⟨rfl, rfl, Nat.le_of_ble_eq_true rfl, Nat.le_of_ble_eq_true rfl, Nat.le_of_ble_eq_true rfl, Nat.le_of_ble_eq_true rfl⟩ ?_
  refine q_if_eq (tgt := 17) C h dX8_about_10 (by decide) (fun h => ?_) (fun h => ?_)
  · refine q_iconst (v := 1) C dX8_about_17 (by decide) ?_
    exact W8_about_18 C hr n v1 1 S h
  · refine q_iconst (v := 0) C dX8_about_13 (by decide) ?_
    refine q_goto (tgt := 18) C dX8_about_14 (by decide) ?_
    exact W8_about_18 C hr n v1 0 S h
/-! ClosedStreetsModel.street -/
abbrev rmX8_street : Room := { frames := 4, cells := 0, slots := 0, locals := 160 }
def B8_street_33 (n : Nat) (v1 : Int32) (v2 : Int32) (t1 : Int32) (S : qSt) : Option (Int32 × qSt) := ob2 (F8_refused t1 S) fun r4 S5 => if r4 = 0 then (if qin (4 + v1) 84 = true then if qin (24 + v1) 84 = true then if v2 = 0 then (if (S5 114 (24 + v1).toNatClampNeg) ≤ (S5 114 (4 + v1).toNatClampNeg) then (some (S5 114 (24 + v1).toNatClampNeg, S5)) else (some (S5 114 (4 + v1).toNatClampNeg, S5))) else if v2 = 1 then (if (S5 114 (24 + v1).toNatClampNeg) ≤ (S5 114 (4 + v1).toNatClampNeg) then (some (S5 114 (4 + v1).toNatClampNeg, S5)) else (some (S5 114 (24 + v1).toNatClampNeg, S5))) else if v2 = 2 then (if qin (44 + v1) 84 = true then some (S5 114 (44 + v1).toNatClampNeg, S5) else none) else if v2 = 3 then (if qin (64 + v1) 84 = true then some (S5 114 (64 + v1).toNatClampNeg, S5) else none) else (ob2 (F8_layWay n 114 (-999) S5) fun r13 S14 => if qin (64 + v1) 84 = true then if ¬ (S14 114 (64 + v1).toNatClampNeg) = 0 then (some (0, S14)) else (ob1 (F8_isOfWay n 114 v1 S14) fun r17 => if r17 = 0 then (some (0, S14)) else (some (1, S14))) else none) else none else none) else (some (0, S5))
set_option maxRecDepth 100000 in
set_option maxHeartbeats 4000000 in
theorem W8_street_33 {r : Int32} {S2 : qSt} (C : qC g cX8_street RX8 5 p s m meth c) (hr : meth.sig.returnType = (some .int)) (n : Nat) (v1 : Int32) (v2 : Int32) (t1 : Int32) (S : qSt) (h : B8_street_33 n v1 v2 t1 S = some (r, S2)) : qR g NL qT 5 p l e rmX8_street s m args below meth c 0 0 (MQ below (qQi g NL qT (qmem g S2) r) args s 0 0 (qA g)) (qmem g S) 33 [(0, .ref (qa g 111)), (1, .int v1), (2, .int v2)] [.int t1, .ref (qa g 111)] := by
  unfold B8_street_33 at h
  obtain ⟨r4, S5, hc3, h⟩ := ob2_e h
  refine q_callVi0 C ltp_111 (qmem_o kd_111 (Nat.le_of_ble_eq_true rfl)) rfl rfl (kX8_refused t1 S hc3) lm8_103 rfl (rest := []) rfl (Nat.le_of_ble_eq_true rfl) dX8_street_33 ⟨rfl, rfl, Nat.le_of_ble_eq_true rfl, Nat.le_of_ble_eq_true rfl, Nat.le_of_ble_eq_true rfl, Nat.le_of_ble_eq_true rfl⟩ ?_
  refine q_if_eq (tgt := 41) C h dX8_street_36 (by decide) (fun h => ?_) (fun h => ?_)
  · refine q_aload_n C 0 dX8_street_41 rfl rfl ?_
    refine s_getr (a := 114) C lf8_16 ltp_111 kd_111 rfl dX8_street_42 ?_
    refine q_iconst (v := 4) C dX8_street_45 (by decide) ?_
    refine q_iload_n C 1 dX8_street_46 rfl rfl ?_
    refine q_iadd C dX8_street_47 ?_
    obtain ⟨hb6, h⟩ := q_if h
    refine s_iald C ltp_114 kd_114 hb6 dX8_street_48 ?_
    refine q_istore_n C (lv' := [(3, .int (S5 114 (4 + v1).toNatClampNeg)), (0, .ref (qa g 111)), (1, .int v1), (2, .int v2)]) dX8_street_49 rfl (by decide) rfl ?_
    refine q_norm [1, 2, 3, 0] rfl ?_
    refine q_aload_n C 0 dX8_street_50 rfl rfl ?_
    refine s_getr (a := 114) C lf8_16 ltp_111 kd_111 rfl dX8_street_51 ?_
    refine q_bipush (v := 24) C dX8_street_54 (by decide) ?_
    refine q_iload_n C 1 dX8_street_56 rfl rfl ?_
    refine q_iadd C dX8_street_57 ?_
    obtain ⟨hb7, h⟩ := q_if h
    refine s_iald C ltp_114 kd_114 hb7 dX8_street_58 ?_
    refine q_istore C (lv' := [(4, .int (S5 114 (24 + v1).toNatClampNeg)), (0, .ref (qa g 111)), (1, .int v1), (2, .int v2), (3, .int (S5 114 (4 + v1).toNatClampNeg))]) dX8_street_59 (by decide) rfl ?_
    refine q_norm [1, 2, 3, 4, 0] rfl ?_
    refine q_iload_n C 2 dX8_street_61 rfl rfl ?_
    rcases q_ite h with ⟨q8, h⟩ | ⟨q8, h⟩
    · refine q_tableIn (off := 30) (tgt := 92) C dX8_street_62 (by rw [q8]; decide) (by rw [q8]; decide) (by rw [q8]; rfl) (by decide) ?_
      refine q_iload_n C 3 dX8_street_92 rfl rfl ?_
      refine q_iload C 4 dX8_street_93 rfl ?_
      refine q_icmp_ge (tgt := 102) C h dX8_street_95 (by decide) (fun h => ?_) (fun h => ?_)
      · refine q_iload C 4 dX8_street_102 rfl ?_
        obtain ⟨rfl, rfl⟩ := Prod.mk.inj (Option.some.inj h)
        exact q_iret C hr (Nat.le_refl 0) (Nat.le_refl 0) dX8_street_104
      · refine q_iload_n C 3 dX8_street_98 rfl rfl ?_
        refine q_goto (tgt := 104) C dX8_street_99 (by decide) ?_
        obtain ⟨rfl, rfl⟩ := Prod.mk.inj (Option.some.inj h)
        exact q_iret C hr (Nat.le_refl 0) (Nat.le_refl 0) dX8_street_104
    rcases q_ite h with ⟨q9, h⟩ | ⟨q9, h⟩
    · refine q_tableIn (off := 43) (tgt := 105) C dX8_street_62 (by rw [q9]; decide) (by rw [q9]; decide) (by rw [q9]; rfl) (by decide) ?_
      refine q_iload_n C 3 dX8_street_105 rfl rfl ?_
      refine q_iload C 4 dX8_street_106 rfl ?_
      refine q_icmp_ge (tgt := 116) C h dX8_street_108 (by decide) (fun h => ?_) (fun h => ?_)
      · refine q_iload_n C 3 dX8_street_116 rfl rfl ?_
        obtain ⟨rfl, rfl⟩ := Prod.mk.inj (Option.some.inj h)
        exact q_iret C hr (Nat.le_refl 0) (Nat.le_refl 0) dX8_street_117
      · refine q_iload C 4 dX8_street_111 rfl ?_
        refine q_goto (tgt := 117) C dX8_street_113 (by decide) ?_
        obtain ⟨rfl, rfl⟩ := Prod.mk.inj (Option.some.inj h)
        exact q_iret C hr (Nat.le_refl 0) (Nat.le_refl 0) dX8_street_117
    rcases q_ite h with ⟨q10, h⟩ | ⟨q10, h⟩
    · refine q_tableIn (off := 56) (tgt := 118) C dX8_street_62 (by rw [q10]; decide) (by rw [q10]; decide) (by rw [q10]; rfl) (by decide) ?_
      refine q_aload_n C 0 dX8_street_118 rfl rfl ?_
      refine s_getr (a := 114) C lf8_16 ltp_111 kd_111 rfl dX8_street_119 ?_
      refine q_bipush (v := 44) C dX8_street_122 (by decide) ?_
      refine q_iload_n C 1 dX8_street_124 rfl rfl ?_
      refine q_iadd C dX8_street_125 ?_
      obtain ⟨hb18, h⟩ := q_if h
      refine s_iald C ltp_114 kd_114 hb18 dX8_street_126 ?_
      obtain ⟨rfl, rfl⟩ := Prod.mk.inj (Option.some.inj h)
      exact q_iret C hr (Nat.le_refl 0) (Nat.le_refl 0) dX8_street_127
    rcases q_ite h with ⟨q11, h⟩ | ⟨q11, h⟩
    · refine q_tableIn (off := 66) (tgt := 128) C dX8_street_62 (by rw [q11]; decide) (by rw [q11]; decide) (by rw [q11]; rfl) (by decide) ?_
      refine q_aload_n C 0 dX8_street_128 rfl rfl ?_
      refine s_getr (a := 114) C lf8_16 ltp_111 kd_111 rfl dX8_street_129 ?_
      refine q_bipush (v := 64) C dX8_street_132 (by decide) ?_
      refine q_iload_n C 1 dX8_street_134 rfl rfl ?_
      refine q_iadd C dX8_street_135 ?_
      obtain ⟨hb19, h⟩ := q_if h
      refine s_iald C ltp_114 kd_114 hb19 dX8_street_136 ?_
      obtain ⟨rfl, rfl⟩ := Prod.mk.inj (Option.some.inj h)
      exact q_iret C hr (Nat.le_refl 0) (Nat.le_refl 0) dX8_street_137
    refine q_tableOut (tgt := 138) C dX8_street_62 (by have q8 := q_ne (k := 0) (by decide) q8; have q9 := q_ne (k := 1) (by decide) q9; have q10 := q_ne (k := 2) (by decide) q10; have q11 := q_ne (k := 3) (by decide) q11; omega) (by decide) ?_
    refine q_aload_n C 0 dX8_street_138 rfl rfl ?_
    refine q_aload_n C 0 dX8_street_139 rfl rfl ?_
    refine s_getr (a := 114) C lf8_16 ltp_111 kd_111 rfl dX8_street_140 ?_
    refine q_sipush (v := (-999)) C dX8_street_143 (by decide) ?_
    obtain ⟨r13, S14, hc12, h⟩ := ob2_e h
    refine q_callVi0 C ltp_111 (qmem_o kd_111 (Nat.le_of_ble_eq_true rfl)) rfl rfl (kX8_layWay n 114 (tyI_114) (-999) S5 hc12) lm8_170 rfl (rest := []) rfl (Nat.le_of_ble_eq_true rfl) dX8_street_146 ⟨rfl, rfl, Nat.le_of_ble_eq_true rfl, Nat.le_of_ble_eq_true rfl, Nat.le_of_ble_eq_true rfl, Nat.le_of_ble_eq_true rfl⟩ ?_
    refine q_pop C dX8_street_149 rfl ?_
    refine q_aload_n C 0 dX8_street_150 rfl rfl ?_
    refine s_getr (a := 114) C lf8_16 ltp_111 kd_111 rfl dX8_street_151 ?_
    refine q_bipush (v := 64) C dX8_street_154 (by decide) ?_
    refine q_iload_n C 1 dX8_street_156 rfl rfl ?_
    refine q_iadd C dX8_street_157 ?_
    obtain ⟨hb15, h⟩ := q_if h
    refine s_iald C ltp_114 kd_114 hb15 dX8_street_158 ?_
    refine q_if_ne (tgt := 178) C h dX8_street_159 (by decide) (fun h => ?_) (fun h => ?_)
    · refine q_iconst (v := 0) C dX8_street_178 (by decide) ?_
      obtain ⟨rfl, rfl⟩ := Prod.mk.inj (Option.some.inj h)
      exact q_iret C hr (Nat.le_refl 0) (Nat.le_refl 0) dX8_street_179
    · refine q_aload_n C 0 dX8_street_162 rfl rfl ?_
      refine q_aload_n C 0 dX8_street_163 rfl rfl ?_
      refine s_getr (a := 114) C lf8_16 ltp_111 kd_111 rfl dX8_street_164 ?_
      refine q_iload_n C 1 dX8_street_167 rfl rfl ?_
      obtain ⟨r17, hc16, h⟩ := ob1_e h
      refine q_callVi0 C ltp_111 (qmem_o kd_111 (Nat.le_of_ble_eq_true rfl)) rfl rfl (kX8_isOfWay n 114 (tyI_114) v1 S14 hc16) lm8_179 rfl (rest := []) rfl (Nat.le_of_ble_eq_true rfl) dX8_street_168 ⟨rfl, rfl, Nat.le_of_ble_eq_true rfl, Nat.le_of_ble_eq_true rfl, Nat.le_of_ble_eq_true rfl, Nat.le_of_ble_eq_true rfl⟩ ?_
      refine q_if_eq (tgt := 178) C h dX8_street_171 (by decide) (fun h => ?_) (fun h => ?_)
      · refine q_iconst (v := 0) C dX8_street_178 (by decide) ?_
        obtain ⟨rfl, rfl⟩ := Prod.mk.inj (Option.some.inj h)
        exact q_iret C hr (Nat.le_refl 0) (Nat.le_refl 0) dX8_street_179
      · refine q_iconst (v := 1) C dX8_street_174 (by decide) ?_
        refine q_goto (tgt := 179) C dX8_street_175 (by decide) ?_
        obtain ⟨rfl, rfl⟩ := Prod.mk.inj (Option.some.inj h)
        exact q_iret C hr (Nat.le_refl 0) (Nat.le_refl 0) dX8_street_179
  · refine q_iconst (v := 0) C dX8_street_39 (by decide) ?_
    obtain ⟨rfl, rfl⟩ := Prod.mk.inj (Option.some.inj h)
    exact q_iret C hr (Nat.le_refl 0) (Nat.le_refl 0) dX8_street_40
def F8_street (n : Nat) (v1 : Int32) (v2 : Int32) (S : qSt) : Option (Int32 × qSt) := ob1 (F8_isStreet 114 v1 S) fun r2 => if ¬ r2 = 0 then (if (F8_in v2.toInt64 0 4 S) = 0 then (B8_street_33 n v1 v2 2 S) else (B8_street_33 n v1 v2 0 S)) else (B8_street_33 n v1 v2 1 S)
set_option maxRecDepth 100000 in
set_option maxHeartbeats 4000000 in
theorem kX8_street {l : Launch} {g : qG} (n : Nat) (v1 : Int32) (v2 : Int32) (S : qSt) {r : Int32} {S2 : qSt} (h : F8_street n v1 v2 S = some (r, S2)) : Met l yX8_street [.code yX8_street cX8_street 5 (some .int)] rmX8_street (qPc g NL qT (qmem g S) [.ref (qa g 111), .int v1, .int v2]) (qQi g NL qT (qmem g S2) r) 0 0 (qA g) := by
  refine q_met (by decide) (Nat.le_of_ble_eq_true rfl) (fun p e s m args below meth c C hr _ => ?_)
  have C : qC g cX8_street RX8 5 p s m meth c := C
  show qR g NL qT 5 p l e rmX8_street s m args below meth c 0 0 (MQ below (qQi g NL qT (qmem g S2) r) args s 0 0 (qA g)) (qmem g S) 0 [(0, .ref (qa g 111)), (1, .int v1), (2, .int v2)] []
  unfold F8_street at h
  refine q_aload_n C 0 dX8_street_0 rfl rfl ?_
  refine q_aload_n C 0 dX8_street_1 rfl rfl ?_
  refine s_getr (a := 114) C lf8_16 ltp_111 kd_111 rfl dX8_street_2 ?_
  refine q_iload_n C 1 dX8_street_5 rfl rfl ?_
  obtain ⟨r2, hc1, h⟩ := ob1_e h
  refine q_callSi0 C (kX8_isStreet 114 (tyI_114) v1 S hc1) lm8_173 rfl (rest := [.ref (qa g 111)]) rfl (Nat.le_of_ble_eq_true rfl) dX8_street_6 ⟨rfl, rfl, Nat.le_of_ble_eq_true rfl, Nat.le_of_ble_eq_true rfl, Nat.le_of_ble_eq_true rfl, Nat.le_of_ble_eq_true rfl⟩ ?_
  refine q_if_ne (tgt := 16) C h dX8_street_9 (by decide) (fun h => ?_) (fun h => ?_)
  · refine q_iload_n C 2 dX8_street_16 rfl rfl ?_
    refine q_i2l C dX8_street_17 rfl ?_
    refine q_lconst (v := 0) C dX8_street_18 (by decide) ?_
    refine q_ldc2 (v := 4) C lc8_177 dX8_street_19 ?_
    refine q_callSi0 C (kX8_in v2.toInt64 0 4 S) lm8_65 rfl (rest := [.ref (qa g 111)]) rfl (Nat.le_of_ble_eq_true rfl) dX8_street_22 ⟨rfl, rfl, Nat.le_of_ble_eq_true rfl, Nat.le_of_ble_eq_true rfl, Nat.le_of_ble_eq_true rfl, Nat.le_of_ble_eq_true rfl⟩ ?_
    refine q_if_eq (tgt := 32) C h dX8_street_25 (by decide) (fun h => ?_) (fun h => ?_)
    · refine q_iconst (v := 2) C dX8_street_32 (by decide) ?_
      exact W8_street_33 C hr n v1 v2 2 S h
    · refine q_iconst (v := 0) C dX8_street_28 (by decide) ?_
      refine q_goto (tgt := 33) C dX8_street_29 (by decide) ?_
      exact W8_street_33 C hr n v1 v2 0 S h
  · refine q_iconst (v := 1) C dX8_street_12 (by decide) ?_
    refine q_goto (tgt := 33) C dX8_street_13 (by decide) ?_
    exact W8_street_33 C hr n v1 v2 1 S h
/-! ClosedStreetsModel.crossing -/
abbrev rmX8_crossing : Room := { frames := 4, cells := 0, slots := 0, locals := 160 }
def B8_crossing_114 (n : Nat) (v1 : Int32) (t2 : Int32) (S : qSt) : Option (Int32 × qSt) := ob1 (F8_layFar n 114 t2 S) fun S9 => if qin v1 9 = true then some (F8_lengthOf (S9 121 v1.toNatClampNeg) S9, S9) else none
set_option maxRecDepth 100000 in
set_option maxHeartbeats 4000000 in
theorem W8_crossing_114 {r : Int32} {S2 : qSt} (C : qC g cX8_crossing RX8 3 p s m meth c) (hr : meth.sig.returnType = (some .int)) (n : Nat) (v1 : Int32) (t2 : Int32) (S : qSt) (h : B8_crossing_114 n v1 t2 S = some (r, S2)) : qR g NL qT 3 p l e rmX8_crossing s m args below meth c 0 0 (MQ below (qQi g NL qT (qmem g S2) r) args s 0 0 (qA g)) (qmem g S) 114 [(0, .ref (qa g 111)), (1, .int v1)] [.int t2, .ref (qa g 114), .ref (qa g 111)] := by
  unfold B8_crossing_114 at h
  obtain ⟨S9, hc8, h⟩ := ob1_e h
  refine q_callVv0 C ltp_111 (qmem_o kd_111 (Nat.le_of_ble_eq_true rfl)) rfl rfl (kX8_layFar n 114 (tyI_114) t2 S hc8) lm8_74 rfl (rest := []) rfl (Nat.le_of_ble_eq_true rfl) dX8_crossing_114 ⟨rfl, rfl, Nat.le_of_ble_eq_true rfl, Nat.le_of_ble_eq_true rfl, Nat.le_of_ble_eq_true rfl, Nat.le_of_ble_eq_true rfl⟩ ?_
  refine q_aload_n C 0 dX8_crossing_117 rfl rfl ?_
  refine s_getr (a := 121) C lf8_38 ltp_111 kd_111 rfl dX8_crossing_118 ?_
  refine q_iload_n C 1 dX8_crossing_121 rfl rfl ?_
  obtain ⟨hb10, h⟩ := q_if h
  refine s_iald C ltp_121 kd_121 hb10 dX8_crossing_122 ?_
  refine q_callSi0 C (kX8_lengthOf (S9 121 v1.toNatClampNeg) S9) lm8_77 rfl (rest := []) rfl (Nat.le_of_ble_eq_true rfl) dX8_crossing_123 ⟨rfl, rfl, Nat.le_of_ble_eq_true rfl, Nat.le_of_ble_eq_true rfl, Nat.le_of_ble_eq_true rfl, Nat.le_of_ble_eq_true rfl⟩ ?_
  obtain ⟨rfl, rfl⟩ := Prod.mk.inj (Option.some.inj h)
  exact q_iret C hr (Nat.le_refl 0) (Nat.le_refl 0) dX8_crossing_126
def B8_crossing_33 (n : Nat) (v1 : Int32) (v2 : Int32) (t1 : Int32) (S : qSt) : Option (Int32 × qSt) := ob2 (F8_refused t1 S) fun r4 S5 => if r4 = 0 then (if ¬ v2 = 0 then (if ¬ v2 = 3 then (ob1 (F8_layCosts n 114 (-999) S5) fun S7 => if ¬ v2 = 1 then (B8_crossing_114 n v1 (S7 114 (3 : Int32).toNatClampNeg) S7) else (B8_crossing_114 n v1 (S7 114 (2 : Int32).toNatClampNeg) S7)) else (ob2 (F8_layWay n 114 (-999) S5) fun r12 S13 => ob1 (F8_placeOf n v1 S13) fun r15 => some (r15, S13))) else (ob1 (F8_streetsAt n 114 v1 1 S5) fun r17 => some (r17, S5))) else (some (0, S5))
set_option maxRecDepth 100000 in
set_option maxHeartbeats 4000000 in
theorem W8_crossing_33 {r : Int32} {S2 : qSt} (C : qC g cX8_crossing RX8 3 p s m meth c) (hr : meth.sig.returnType = (some .int)) (n : Nat) (v1 : Int32) (v2 : Int32) (t1 : Int32) (S : qSt) (h : B8_crossing_33 n v1 v2 t1 S = some (r, S2)) : qR g NL qT 3 p l e rmX8_crossing s m args below meth c 0 0 (MQ below (qQi g NL qT (qmem g S2) r) args s 0 0 (qA g)) (qmem g S) 33 [(0, .ref (qa g 111)), (1, .int v1), (2, .int v2)] [.int t1, .ref (qa g 111)] := by
  unfold B8_crossing_33 at h
  obtain ⟨r4, S5, hc3, h⟩ := ob2_e h
  refine q_callVi0 C ltp_111 (qmem_o kd_111 (Nat.le_of_ble_eq_true rfl)) rfl rfl (kX8_refused t1 S hc3) lm8_103 rfl (rest := []) rfl (Nat.le_of_ble_eq_true rfl) dX8_crossing_33 ⟨rfl, rfl, Nat.le_of_ble_eq_true rfl, Nat.le_of_ble_eq_true rfl, Nat.le_of_ble_eq_true rfl, Nat.le_of_ble_eq_true rfl⟩ ?_
  refine q_if_eq (tgt := 41) C h dX8_crossing_36 (by decide) (fun h => ?_) (fun h => ?_)
  · refine q_iload_n C 2 dX8_crossing_41 rfl rfl ?_
    refine q_if_ne (tgt := 55) C h dX8_crossing_42 (by decide) (fun h => ?_) (fun h => ?_)
    · refine q_iload_n C 2 dX8_crossing_55 rfl rfl ?_
      refine q_iconst (v := 3) C dX8_crossing_56 (by decide) ?_
      refine q_icmp_ne (tgt := 78) C h dX8_crossing_57 (by decide) (fun h => ?_) (fun h => ?_)
      · refine q_aload_n C 0 dX8_crossing_78 rfl rfl ?_
        refine q_aload_n C 0 dX8_crossing_79 rfl rfl ?_
        refine s_getr (a := 114) C lf8_16 ltp_111 kd_111 rfl dX8_crossing_80 ?_
        refine q_sipush (v := (-999)) C dX8_crossing_83 (by decide) ?_
        obtain ⟨S7, hc6, h⟩ := ob1_e h
        refine q_callVv0 C ltp_111 (qmem_o kd_111 (Nat.le_of_ble_eq_true rfl)) rfl rfl (kX8_layCosts n 114 (tyI_114) (-999) S5 hc6) lm8_81 rfl (rest := []) rfl (Nat.le_of_ble_eq_true rfl) dX8_crossing_86 ⟨rfl, rfl, Nat.le_of_ble_eq_true rfl, Nat.le_of_ble_eq_true rfl, Nat.le_of_ble_eq_true rfl, Nat.le_of_ble_eq_true rfl⟩ ?_
        refine q_aload_n C 0 dX8_crossing_89 rfl rfl ?_
        refine q_aload_n C 0 dX8_crossing_90 rfl rfl ?_
        refine s_getr (a := 114) C lf8_16 ltp_111 kd_111 rfl dX8_crossing_91 ?_
        refine q_iload_n C 2 dX8_crossing_94 rfl rfl ?_
        refine q_iconst (v := 1) C dX8_crossing_95 (by decide) ?_
        refine q_icmp_ne (tgt := 108) C h dX8_crossing_96 (by decide) (fun h => ?_) (fun h => ?_)
        · refine q_aload_n C 0 dX8_crossing_108 rfl rfl ?_
          refine s_getr (a := 114) C lf8_16 ltp_111 kd_111 rfl dX8_crossing_109 ?_
          refine q_iconst (v := 3) C dX8_crossing_112 (by decide) ?_
          refine s_iald C ltp_114 kd_114 (by decide) dX8_crossing_113 ?_
          refine q_norm [0, 1] rfl ?_
          exact W8_crossing_114 C hr n v1 (S7 114 (3 : Int32).toNatClampNeg) S7 h
        · refine q_aload_n C 0 dX8_crossing_99 rfl rfl ?_
          refine s_getr (a := 114) C lf8_16 ltp_111 kd_111 rfl dX8_crossing_100 ?_
          refine q_iconst (v := 2) C dX8_crossing_103 (by decide) ?_
          refine s_iald C ltp_114 kd_114 (by decide) dX8_crossing_104 ?_
          refine q_goto (tgt := 114) C dX8_crossing_105 (by decide) ?_
          refine q_norm [0, 1] rfl ?_
          exact W8_crossing_114 C hr n v1 (S7 114 (2 : Int32).toNatClampNeg) S7 h
      · refine q_aload_n C 0 dX8_crossing_60 rfl rfl ?_
        refine q_aload_n C 0 dX8_crossing_61 rfl rfl ?_
        refine s_getr (a := 114) C lf8_16 ltp_111 kd_111 rfl dX8_crossing_62 ?_
        refine q_sipush (v := (-999)) C dX8_crossing_65 (by decide) ?_
        obtain ⟨r12, S13, hc11, h⟩ := ob2_e h
        refine q_callVi0 C ltp_111 (qmem_o kd_111 (Nat.le_of_ble_eq_true rfl)) rfl rfl (kX8_layWay n 114 (tyI_114) (-999) S5 hc11) lm8_170 rfl (rest := []) rfl (Nat.le_of_ble_eq_true rfl) dX8_crossing_68 ⟨rfl, rfl, Nat.le_of_ble_eq_true rfl, Nat.le_of_ble_eq_true rfl, Nat.le_of_ble_eq_true rfl, Nat.le_of_ble_eq_true rfl⟩ ?_
        refine q_pop C dX8_crossing_71 rfl ?_
        refine q_aload_n C 0 dX8_crossing_72 rfl rfl ?_
        refine q_iload_n C 1 dX8_crossing_73 rfl rfl ?_
        obtain ⟨r15, hc14, h⟩ := ob1_e h
        refine q_callVi0 C ltp_111 (qmem_o kd_111 (Nat.le_of_ble_eq_true rfl)) rfl rfl (kX8_placeOf n v1 S13 hc14) lm8_95 rfl (rest := []) rfl (Nat.le_of_ble_eq_true rfl) dX8_crossing_74 ⟨rfl, rfl, Nat.le_of_ble_eq_true rfl, Nat.le_of_ble_eq_true rfl, Nat.le_of_ble_eq_true rfl, Nat.le_of_ble_eq_true rfl⟩ ?_
        obtain ⟨rfl, rfl⟩ := Prod.mk.inj (Option.some.inj h)
        exact q_iret C hr (Nat.le_refl 0) (Nat.le_refl 0) dX8_crossing_77
    · refine q_aload_n C 0 dX8_crossing_45 rfl rfl ?_
      refine s_getr (a := 114) C lf8_16 ltp_111 kd_111 rfl dX8_crossing_46 ?_
      refine q_iload_n C 1 dX8_crossing_49 rfl rfl ?_
      refine q_iconst (v := 1) C dX8_crossing_50 (by decide) ?_
      obtain ⟨r17, hc16, h⟩ := ob1_e h
      refine q_callSi0 C (kX8_streetsAt n 114 (tyI_114) v1 1 S5 hc16) lm8_114 rfl (rest := []) rfl (Nat.le_of_ble_eq_true rfl) dX8_crossing_51 ⟨rfl, rfl, Nat.le_of_ble_eq_true rfl, Nat.le_of_ble_eq_true rfl, Nat.le_of_ble_eq_true rfl, Nat.le_of_ble_eq_true rfl⟩ ?_
      obtain ⟨rfl, rfl⟩ := Prod.mk.inj (Option.some.inj h)
      exact q_iret C hr (Nat.le_refl 0) (Nat.le_refl 0) dX8_crossing_54
  · refine q_iconst (v := 0) C dX8_crossing_39 (by decide) ?_
    obtain ⟨rfl, rfl⟩ := Prod.mk.inj (Option.some.inj h)
    exact q_iret C hr (Nat.le_refl 0) (Nat.le_refl 0) dX8_crossing_40
def F8_crossing (n : Nat) (v1 : Int32) (v2 : Int32) (S : qSt) : Option (Int32 × qSt) := ob1 (F8_isCrossing 114 v1 S) fun r2 => if ¬ r2 = 0 then (if (F8_in v2.toInt64 0 3 S) = 0 then (B8_crossing_33 n v1 v2 2 S) else (B8_crossing_33 n v1 v2 0 S)) else (B8_crossing_33 n v1 v2 1 S)
set_option maxRecDepth 100000 in
set_option maxHeartbeats 4000000 in
theorem kX8_crossing {l : Launch} {g : qG} (n : Nat) (v1 : Int32) (v2 : Int32) (S : qSt) {r : Int32} {S2 : qSt} (h : F8_crossing n v1 v2 S = some (r, S2)) : Met l yX8_crossing [.code yX8_crossing cX8_crossing 3 (some .int)] rmX8_crossing (qPc g NL qT (qmem g S) [.ref (qa g 111), .int v1, .int v2]) (qQi g NL qT (qmem g S2) r) 0 0 (qA g) := by
  refine q_met (by decide) (Nat.le_of_ble_eq_true rfl) (fun p e s m args below meth c C hr _ => ?_)
  have C : qC g cX8_crossing RX8 3 p s m meth c := C
  show qR g NL qT 3 p l e rmX8_crossing s m args below meth c 0 0 (MQ below (qQi g NL qT (qmem g S2) r) args s 0 0 (qA g)) (qmem g S) 0 [(0, .ref (qa g 111)), (1, .int v1), (2, .int v2)] []
  unfold F8_crossing at h
  refine q_aload_n C 0 dX8_crossing_0 rfl rfl ?_
  refine q_aload_n C 0 dX8_crossing_1 rfl rfl ?_
  refine s_getr (a := 114) C lf8_16 ltp_111 kd_111 rfl dX8_crossing_2 ?_
  refine q_iload_n C 1 dX8_crossing_5 rfl rfl ?_
  obtain ⟨r2, hc1, h⟩ := ob1_e h
  refine q_callSi0 C (kX8_isCrossing 114 (tyI_114) v1 S hc1) lm8_182 rfl (rest := [.ref (qa g 111)]) rfl (Nat.le_of_ble_eq_true rfl) dX8_crossing_6 ⟨rfl, rfl, Nat.le_of_ble_eq_true rfl, Nat.le_of_ble_eq_true rfl, Nat.le_of_ble_eq_true rfl, Nat.le_of_ble_eq_true rfl⟩ ?_
  refine q_if_ne (tgt := 16) C h dX8_crossing_9 (by decide) (fun h => ?_) (fun h => ?_)
  · refine q_iload_n C 2 dX8_crossing_16 rfl rfl ?_
    refine q_i2l C dX8_crossing_17 rfl ?_
    refine q_lconst (v := 0) C dX8_crossing_18 (by decide) ?_
    refine q_ldc2 (v := 3) C lc8_185 dX8_crossing_19 ?_
    refine q_callSi0 C (kX8_in v2.toInt64 0 3 S) lm8_65 rfl (rest := [.ref (qa g 111)]) rfl (Nat.le_of_ble_eq_true rfl) dX8_crossing_22 ⟨rfl, rfl, Nat.le_of_ble_eq_true rfl, Nat.le_of_ble_eq_true rfl, Nat.le_of_ble_eq_true rfl, Nat.le_of_ble_eq_true rfl⟩ ?_
    refine q_if_eq (tgt := 32) C h dX8_crossing_25 (by decide) (fun h => ?_) (fun h => ?_)
    · refine q_iconst (v := 2) C dX8_crossing_32 (by decide) ?_
      exact W8_crossing_33 C hr n v1 v2 2 S h
    · refine q_iconst (v := 0) C dX8_crossing_28 (by decide) ?_
      refine q_goto (tgt := 33) C dX8_crossing_29 (by decide) ?_
      exact W8_crossing_33 C hr n v1 v2 0 S h
  · refine q_iconst (v := 1) C dX8_crossing_12 (by decide) ?_
    refine q_goto (tgt := 33) C dX8_crossing_13 (by decide) ?_
    exact W8_crossing_33 C hr n v1 v2 1 S h
/-! ClosedStreetsModel.between -/
abbrev rmX8_between : Room := { frames := 2, cells := 0, slots := 0, locals := 80 }
def B8_between_28 (n : Nat) (v1 : Int32) (v2 : Int32) (t1 : Int32) (S : qSt) : Option (Int32 × qSt) := ob2 (F8_refused t1 S) fun r4 S5 => if r4 = 0 then (ob1 (F8_joined n 114 v1 v2 S5) fun r7 => some (r7, S5)) else (some (0, S5))
set_option maxRecDepth 100000 in
set_option maxHeartbeats 4000000 in
theorem W8_between_28 {r : Int32} {S2 : qSt} (C : qC g cX8_between RX8 3 p s m meth c) (hr : meth.sig.returnType = (some .int)) (n : Nat) (v1 : Int32) (v2 : Int32) (t1 : Int32) (S : qSt) (h : B8_between_28 n v1 v2 t1 S = some (r, S2)) : qR g NL qT 3 p l e rmX8_between s m args below meth c 0 0 (MQ below (qQi g NL qT (qmem g S2) r) args s 0 0 (qA g)) (qmem g S) 28 [(0, .ref (qa g 111)), (1, .int v1), (2, .int v2)] [.int t1, .ref (qa g 111)] := by
  unfold B8_between_28 at h
  obtain ⟨r4, S5, hc3, h⟩ := ob2_e h
  refine q_callVi0 C ltp_111 (qmem_o kd_111 (Nat.le_of_ble_eq_true rfl)) rfl rfl (kX8_refused t1 S hc3) lm8_103 rfl (rest := []) rfl (Nat.le_of_ble_eq_true rfl) dX8_between_28 ⟨rfl, rfl, Nat.le_of_ble_eq_true rfl, Nat.le_of_ble_eq_true rfl, Nat.le_of_ble_eq_true rfl, Nat.le_of_ble_eq_true rfl⟩ ?_
  refine q_if_eq (tgt := 36) C h dX8_between_31 (by decide) (fun h => ?_) (fun h => ?_)
  · refine q_aload_n C 0 dX8_between_36 rfl rfl ?_
    refine s_getr (a := 114) C lf8_16 ltp_111 kd_111 rfl dX8_between_37 ?_
    refine q_iload_n C 1 dX8_between_40 rfl rfl ?_
    refine q_iload_n C 2 dX8_between_41 rfl rfl ?_
    obtain ⟨r7, hc6, h⟩ := ob1_e h
    refine q_callSi0 C (kX8_joined n 114 (tyI_114) v1 v2 S5 hc6) lm8_118 rfl (rest := []) rfl (Nat.le_of_ble_eq_true rfl) dX8_between_42 ⟨rfl, rfl, Nat.le_of_ble_eq_true rfl, Nat.le_of_ble_eq_true rfl, Nat.le_of_ble_eq_true rfl, Nat.le_of_ble_eq_true rfl⟩ ?_
    obtain ⟨rfl, rfl⟩ := Prod.mk.inj (Option.some.inj h)
    exact q_iret C hr (Nat.le_refl 0) (Nat.le_refl 0) dX8_between_45
  · refine q_iconst (v := 0) C dX8_between_34 (by decide) ?_
    obtain ⟨rfl, rfl⟩ := Prod.mk.inj (Option.some.inj h)
    exact q_iret C hr (Nat.le_refl 0) (Nat.le_refl 0) dX8_between_35
def B8_between_27 (n : Nat) (v1 : Int32) (v2 : Int32) (S : qSt) : Option (Int32 × qSt) := B8_between_28 n v1 v2 1 S
set_option maxRecDepth 100000 in
set_option maxHeartbeats 4000000 in
theorem W8_between_27 {r : Int32} {S2 : qSt} (C : qC g cX8_between RX8 3 p s m meth c) (hr : meth.sig.returnType = (some .int)) (n : Nat) (v1 : Int32) (v2 : Int32) (S : qSt) (h : B8_between_27 n v1 v2 S = some (r, S2)) : qR g NL qT 3 p l e rmX8_between s m args below meth c 0 0 (MQ below (qQi g NL qT (qmem g S2) r) args s 0 0 (qA g)) (qmem g S) 27 [(0, .ref (qa g 111)), (1, .int v1), (2, .int v2)] [.ref (qa g 111)] := by
  unfold B8_between_27 at h
  refine q_iconst (v := 1) C dX8_between_27 (by decide) ?_
  exact W8_between_28 C hr n v1 v2 1 S h
def F8_between (n : Nat) (v1 : Int32) (v2 : Int32) (S : qSt) : Option (Int32 × qSt) := ob1 (F8_isCrossing 114 v1 S) fun r2 => if r2 = 0 then (B8_between_27 n v1 v2 S) else (ob1 (F8_isCrossing 114 v2 S) fun r9 => if r9 = 0 then (B8_between_27 n v1 v2 S) else (B8_between_28 n v1 v2 0 S))
set_option maxRecDepth 100000 in
set_option maxHeartbeats 4000000 in
theorem kX8_between {l : Launch} {g : qG} (n : Nat) (v1 : Int32) (v2 : Int32) (S : qSt) {r : Int32} {S2 : qSt} (h : F8_between n v1 v2 S = some (r, S2)) : Met l yX8_between [.code yX8_between cX8_between 3 (some .int)] rmX8_between (qPc g NL qT (qmem g S) [.ref (qa g 111), .int v1, .int v2]) (qQi g NL qT (qmem g S2) r) 0 0 (qA g) := by
  refine q_met (by decide) (Nat.le_of_ble_eq_true rfl) (fun p e s m args below meth c C hr _ => ?_)
  have C : qC g cX8_between RX8 3 p s m meth c := C
  show qR g NL qT 3 p l e rmX8_between s m args below meth c 0 0 (MQ below (qQi g NL qT (qmem g S2) r) args s 0 0 (qA g)) (qmem g S) 0 [(0, .ref (qa g 111)), (1, .int v1), (2, .int v2)] []
  unfold F8_between at h
  refine q_aload_n C 0 dX8_between_0 rfl rfl ?_
  refine q_aload_n C 0 dX8_between_1 rfl rfl ?_
  refine s_getr (a := 114) C lf8_16 ltp_111 kd_111 rfl dX8_between_2 ?_
  refine q_iload_n C 1 dX8_between_5 rfl rfl ?_
  obtain ⟨r2, hc1, h⟩ := ob1_e h
  refine q_callSi0 C (kX8_isCrossing 114 (tyI_114) v1 S hc1) lm8_182 rfl (rest := [.ref (qa g 111)]) rfl (Nat.le_of_ble_eq_true rfl) dX8_between_6 ⟨rfl, rfl, Nat.le_of_ble_eq_true rfl, Nat.le_of_ble_eq_true rfl, Nat.le_of_ble_eq_true rfl, Nat.le_of_ble_eq_true rfl⟩ ?_
  refine q_if_eq (tgt := 27) C h dX8_between_9 (by decide) (fun h => ?_) (fun h => ?_)
  · exact W8_between_27 C hr n v1 v2 S h
  · refine q_aload_n C 0 dX8_between_12 rfl rfl ?_
    refine s_getr (a := 114) C lf8_16 ltp_111 kd_111 rfl dX8_between_13 ?_
    refine q_iload_n C 2 dX8_between_16 rfl rfl ?_
    obtain ⟨r9, hc8, h⟩ := ob1_e h
    refine q_callSi0 C (kX8_isCrossing 114 (tyI_114) v2 S hc8) lm8_182 rfl (rest := [.ref (qa g 111)]) rfl (Nat.le_of_ble_eq_true rfl) dX8_between_17 ⟨rfl, rfl, Nat.le_of_ble_eq_true rfl, Nat.le_of_ble_eq_true rfl, Nat.le_of_ble_eq_true rfl, Nat.le_of_ble_eq_true rfl⟩ ?_
    refine q_if_eq (tgt := 27) C h dX8_between_20 (by decide) (fun h => ?_) (fun h => ?_)
    · exact W8_between_27 C hr n v1 v2 S h
    · refine q_iconst (v := 0) C dX8_between_23 (by decide) ?_
      refine q_goto (tgt := 28) C dX8_between_24 (by decide) ?_
      exact W8_between_28 C hr n v1 v2 0 S h
/-! ClosedStreetsModel.at -/
abbrev rmX8_at : Room := { frames := 0, cells := 0, slots := 0, locals := 0 }
def F8_at (v1 : Int32) (S : qSt) : Option Int32 := if (S 111 15) ≤ v1 then (some (-999)) else (if qin v1 9 = true then some (S 122 v1.toNatClampNeg) else none)
set_option maxRecDepth 100000 in
set_option maxHeartbeats 4000000 in
theorem kX8_at {l : Launch} {g : qG} (v1 : Int32) (S : qSt) {r : Int32} (h : F8_at v1 S = some r) : Met l yX8_at [.code yX8_at cX8_at 2 (some .int)] rmX8_at (qPc g NL qT (qmem g S) [.ref (qa g 111), .int v1]) (qQi g NL qT (qmem g S) r) 0 0 (qA g) := by
  refine q_met (by decide) (Nat.le_of_ble_eq_true rfl) (fun p e s m args below meth c C hr _ => ?_)
  have C : qC g cX8_at RX8 2 p s m meth c := C
  show qR g NL qT 2 p l e rmX8_at s m args below meth c 0 0 (MQ below (qQi g NL qT (qmem g S) r) args s 0 0 (qA g)) (qmem g S) 0 [(0, .ref (qa g 111)), (1, .int v1)] []
  unfold F8_at at h
  refine q_iload_n C 1 dX8_at_0 rfl rfl ?_
  refine q_aload_n C 0 dX8_at_1 rfl rfl ?_
  refine s_geti C lf8_92 ltp_111 kd_111 dX8_at_2 ?_
  refine q_icmp_ge (tgt := 17) C h dX8_at_5 (by decide) (fun h => ?_) (fun h => ?_)
  · refine q_sipush (v := (-999)) C dX8_at_17 (by decide) ?_
    obtain rfl := Option.some.inj h
    exact q_iret C hr (Nat.le_refl 0) (Nat.le_refl 0) dX8_at_20
  · refine q_aload_n C 0 dX8_at_8 rfl rfl ?_
    refine s_getr (a := 122) C lf8_41 ltp_111 kd_111 rfl dX8_at_9 ?_
    refine q_iload_n C 1 dX8_at_12 rfl rfl ?_
    obtain ⟨hb1, h⟩ := q_if h
    refine s_iald C ltp_122 kd_122 hb1 dX8_at_13 ?_
    refine q_goto (tgt := 20) C dX8_at_14 (by decide) ?_
    obtain rfl := Option.some.inj h
    exact q_iret C hr (Nat.le_refl 0) (Nat.le_refl 0) dX8_at_20
end
