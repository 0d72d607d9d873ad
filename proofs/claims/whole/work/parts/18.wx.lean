section
variable {l : Launch} {g : qG} {p : Program} {e : Env} {s : State} {m : MethodId} {args : Array Value} {below : List Frame} {meth : Method} {c : Code}
/-! ClosedStreets.append -/
abbrev rmX7_append : Room := { frames := 6, cells := 1, slots := 6, locals := 240 }
def B7_append_11 (S : qSt) : Option (qOut × qSt) := some (.inr 0, S)
set_option maxRecDepth 100000 in
set_option maxHeartbeats 4000000 in
theorem W7_append_11 {out : qOut} {S2 : qSt} (C : qC g cX7_append RX7 2 p s m meth c) (hr : meth.sig.returnType = (some .int)) (hno : ∀ x ∈ c.exceptionTable.toList, False) (hl9 : l.stackTraces = false) (S : qSt) (h : B7_append_11 S = some (out, S2)) : qR g NL qT 2 p l e rmX7_append s m args below meth c 0 0 (vx_MQ below (qXi g out S2) (qXC g out S2) args s 1 6 (qA g)) (qmem g S) 11 [] [] := by
  unfold B7_append_11 at h
  exact q_throw (i := 6) (tx := "no such character code") C hl9 lx7_E0 rfl h hno (Nat.le_of_ble_eq_true rfl) (Nat.le_of_ble_eq_true rfl) ⟨by decide, by decide⟩ ⟨by decide, by decide⟩ dX7_append_11 dX7_append_14 dX7_append_15 dX7_append_17 dX7_append_20
def F7_append (v1 : Int32) (S : qSt) : Option (qOut × qSt) := if v1 < 0 then (B7_append_11 S) else (if v1 ≤ 255 then (if (S 1 1) < 140 then (ob1 (F4_put ((v1.toUInt32 % 65536).toInt32) S) fun S2 => some (.inl (S2 1 1), S2)) else (some (.inr 1, S))) else (B7_append_11 S))
set_option maxRecDepth 100000 in
set_option maxHeartbeats 4000000 in
theorem kX7_append {l : Launch} {g : qG} (hl9 : l.stackTraces = false) (v1 : Int32) (S : qSt) {out : qOut} {S2 : qSt} (h : F7_append v1 S = some (out, S2)) : vx_Met l yX7_append [.code yX7_append cX7_append 2 (some .int)] rmX7_append (qPc g NL qT (qmem g S) [.ref (qa g 0), .int v1]) (qXi g out S2) (qXC g out S2) 1 6 (qA g) := by
  refine q_xmet (by decide) (Nat.le_of_ble_eq_true rfl) (fun p e s m args below meth c C hr hno => ?_)
  have C : qC g cX7_append RX7 2 p s m meth c := C
  show qR g NL qT 2 p l e rmX7_append s m args below meth c 0 0 (vx_MQ below (qXi g out S2) (qXC g out S2) args s 1 6 (qA g)) (qmem g S) 0 [(0, .ref (qa g 0)), (1, .int v1)] []
  unfold F7_append at h
  refine q_iload_n C 1 dX7_append_0 rfl rfl ?_
  refine q_if_lt (tgt := 11) C h dX7_append_1 (by decide) (fun h => ?_) (fun h => ?_)
  · refine q_norm [] rfl ?_
    exact W7_append_11 C hr hno hl9 S h
  · refine q_iload_n C 1 dX7_append_4 rfl rfl ?_
    refine q_sipush (v := 255) C dX7_append_5 (by decide) ?_
    refine q_icmp_le (tgt := 21) C h dX7_append_8 (by decide) (fun h => ?_) (fun h => ?_)
    · refine q_aload_n C 0 dX7_append_21 rfl rfl ?_
      refine s_getr (a := 1) C lf7_10 ltp_0 kd_0 rfl dX7_append_22 ?_
      refine s_geti C lf7_71 ltp_1 kd_1 dX7_append_25 ?_
      refine q_sipush (v := 140) C dX7_append_28 (by decide) ?_
      refine q_icmp_lt (tgt := 44) C h dX7_append_31 (by decide) (fun h => ?_) (fun h => ?_)
      · refine q_aload_n C 0 dX7_append_44 rfl rfl ?_
        refine s_getr (a := 1) C lf7_10 ltp_0 kd_0 rfl dX7_append_45 ?_
        refine q_iload_n C 1 dX7_append_48 rfl rfl ?_
        refine q_i2c C dX7_append_49 rfl ?_
        obtain ⟨S2, hc1, h⟩ := ob1_e h
        refine q_callVv0 C ltp_1 (qmem_o kd_1 (Nat.le_of_ble_eq_true rfl)) rfl rfl (kX4_put ((v1.toUInt32 % 65536).toInt32) S hc1) lm7_80 rfl (rest := []) rfl (Nat.le_of_ble_eq_true rfl) dX7_append_50 ⟨rfl, rfl, Nat.le_of_ble_eq_true rfl, Nat.le_of_ble_eq_true rfl, Nat.le_of_ble_eq_true rfl, Nat.le_of_ble_eq_true rfl⟩ ?_
        refine q_aload_n C 0 dX7_append_53 rfl rfl ?_
        refine s_getr (a := 1) C lf7_10 ltp_0 kd_0 rfl dX7_append_54 ?_
        refine s_geti C lf7_71 ltp_1 kd_1 dX7_append_57 ?_
        exact q_xiret C hr h (by decide) (by decide) dX7_append_60
      · exact q_throw (i := 7) (tx := "the text is full") C hl9 lx7_E1 rfl h hno (Nat.le_of_ble_eq_true rfl) (Nat.le_of_ble_eq_true rfl) ⟨by decide, by decide⟩ ⟨by decide, by decide⟩ dX7_append_34 dX7_append_37 dX7_append_38 dX7_append_40 dX7_append_43
    · refine q_norm [] rfl ?_
      exact W7_append_11 C hr hno hl9 S h
/-! ClosedStreets.load -/
abbrev rmX7_load : Room := { frames := 6, cells := 1, slots := 6, locals := 240 }
def F7_load (n : Nat) (S : qSt) : Option (qOut × qSt) := ob2 (F6_errorIn n 13 S) fun r2 S3 => if r2 = (-999) then (ob1 (F5_copyFrom n 8 13 S3) fun S5 => ob1 (F0_forgetAll S5) fun S7 => ob1 (F3_emptyAll n S7) fun S9 => some (.inl (S9 8 1), S9)) else (some (.inr 1, S3))
set_option maxRecDepth 100000 in
set_option maxHeartbeats 4000000 in
theorem kX7_load {l : Launch} {g : qG} (hl9 : l.stackTraces = false) (n : Nat) (S : qSt) {out : qOut} {S2 : qSt} (h : F7_load n S = some (out, S2)) : vx_Met l yX7_load [.code yX7_load cX7_load 1 (some .int)] rmX7_load (qPc g NL qT (qmem g S) [.ref (qa g 0)]) (qXi g out S2) (qXC g out S2) 1 6 (qA g) := by
  refine q_xmet (by decide) (Nat.le_of_ble_eq_true rfl) (fun p e s m args below meth c C hr hno => ?_)
  have C : qC g cX7_load RX7 1 p s m meth c := C
  show qR g NL qT 1 p l e rmX7_load s m args below meth c 0 0 (vx_MQ below (qXi g out S2) (qXC g out S2) args s 1 6 (qA g)) (qmem g S) 0 [(0, .ref (qa g 0))] []
  unfold F7_load at h
  refine q_aload_n C 0 dX7_load_0 rfl rfl ?_
  refine s_getr (a := 3) C lf7_19 ltp_0 kd_0 rfl dX7_load_1 ?_
  refine q_aload_n C 0 dX7_load_4 rfl rfl ?_
  refine s_getr (a := 1) C lf7_10 ltp_0 kd_0 rfl dX7_load_5 ?_
  refine q_aload_n C 0 dX7_load_8 rfl rfl ?_
  refine s_getr (a := 13) C lf7_37 ltp_0 kd_0 rfl dX7_load_9 ?_
  obtain ⟨r2, S3, hc1, h⟩ := ob2_e h
  refine q_callVi0 C ltp_3 (qmem_o kd_3 (Nat.le_of_ble_eq_true rfl)) rfl rfl (kX6_errorIn n 13 (tyT_13) S hc1) lm7_88 rfl (rest := []) rfl (Nat.le_of_ble_eq_true rfl) dX7_load_12 ⟨rfl, rfl, Nat.le_of_ble_eq_true rfl, Nat.le_of_ble_eq_true rfl, Nat.le_of_ble_eq_true rfl, Nat.le_of_ble_eq_true rfl⟩ ?_
  refine q_sipush (v := (-999)) C dX7_load_15 (by decide) ?_
  refine q_icmp_eq (tgt := 31) C h dX7_load_18 (by decide) (fun h => ?_) (fun h => ?_)
  · refine q_aload_n C 0 dX7_load_31 rfl rfl ?_
    refine s_getr (a := 8) C lf7_33 ltp_0 kd_0 rfl dX7_load_32 ?_
    refine q_aload_n C 0 dX7_load_35 rfl rfl ?_
    refine s_getr (a := 13) C lf7_37 ltp_0 kd_0 rfl dX7_load_36 ?_
    obtain ⟨S5, hc4, h⟩ := ob1_e h
    refine q_callVv0 C ltp_8 (qmem_o kd_8 (Nat.le_of_ble_eq_true rfl)) rfl rfl (kX5_copyFrom n 8 (tyT_8) 13 (tyT_13) S3 hc4) lm7_93 rfl (rest := []) rfl (Nat.le_of_ble_eq_true rfl) dX7_load_39 ⟨rfl, rfl, Nat.le_of_ble_eq_true rfl, Nat.le_of_ble_eq_true rfl, Nat.le_of_ble_eq_true rfl, Nat.le_of_ble_eq_true rfl⟩ ?_
    refine q_aload_n C 0 dX7_load_42 rfl rfl ?_
    refine s_getr (a := 18) C lf7_43 ltp_0 kd_0 rfl dX7_load_43 ?_
    obtain ⟨S7, hc6, h⟩ := ob1_e h
    refine q_callVv0 C ltp_18 (qmem_o kd_18 (Nat.le_of_ble_eq_true rfl)) rfl rfl (kX0_forgetAll S5 hc6) lm7_97 rfl (rest := []) rfl (Nat.le_of_ble_eq_true rfl) dX7_load_46 ⟨rfl, rfl, Nat.le_of_ble_eq_true rfl, Nat.le_of_ble_eq_true rfl, Nat.le_of_ble_eq_true rfl, Nat.le_of_ble_eq_true rfl⟩ ?_
    refine q_aload_n C 0 dX7_load_49 rfl rfl ?_
    refine s_getr (a := 90) C lf7_50 ltp_0 kd_0 rfl dX7_load_50 ?_
    obtain ⟨S9, hc8, h⟩ := ob1_e h
    refine q_callVv0 C ltp_90 (qmem_o kd_90 (Nat.le_of_ble_eq_true rfl)) rfl rfl (kX3_emptyAll n S7 hc8) lm7_100 rfl (rest := []) rfl (Nat.le_of_ble_eq_true rfl) dX7_load_53 ⟨rfl, rfl, Nat.le_of_ble_eq_true rfl, Nat.le_of_ble_eq_true rfl, Nat.le_of_ble_eq_true rfl, Nat.le_of_ble_eq_true rfl⟩ ?_
    refine q_aload_n C 0 dX7_load_56 rfl rfl ?_
    refine s_getr (a := 8) C lf7_33 ltp_0 kd_0 rfl dX7_load_57 ?_
    refine s_geti C lf7_103 ltp_8 kd_8 dX7_load_60 ?_
    exact q_xiret C hr h (by decide) (by decide) dX7_load_63
  · exact q_throw (i := 8) (tx := "the text is not a town") C hl9 lx7_E1 rfl h hno (Nat.le_of_ble_eq_true rfl) (Nat.le_of_ble_eq_true rfl) ⟨by decide, by decide⟩ ⟨by decide, by decide⟩ dX7_load_21 dX7_load_24 dX7_load_25 dX7_load_27 dX7_load_30
/-! ClosedStreets.about -/
abbrev rmX7_about : Room := { frames := 6, cells := 1, slots := 6, locals := 240 }
def F7_about (n : Nat) (v1 : Int32) (S : qSt) : Option (qOut × qSt) := if v1 = 0 then (some (.inl (S 8 0), S)) else if v1 = 1 then (some (.inl (S 8 1), S)) else if v1 = 2 then (ob1 (F5_closedStreets n 8 S) fun r10 => some (.inl r10, S)) else if v1 = 3 then (some (.inl (S 8 2), S)) else if v1 = 4 then (some (.inl (S 8 3), S)) else if v1 = 5 then (ob2 (F7_bestLengthIn n 8 S) fun r12 S13 => some (.inl r12, S13)) else if v1 = 6 then (ob1 (F2_find n 103 8 S) fun S15 => some (.inl (F2_streets 103 S15), S15)) else if v1 = 7 then (ob2 (F7_neededStreets n S) fun r17 S18 => some (.inl r17, S18)) else (some (.inr 0, S))
set_option maxRecDepth 100000 in
set_option maxHeartbeats 4000000 in
theorem kX7_about {l : Launch} {g : qG} (hl9 : l.stackTraces = false) (n : Nat) (v1 : Int32) (S : qSt) {out : qOut} {S2 : qSt} (h : F7_about n v1 S = some (out, S2)) : vx_Met l yX7_about [.code yX7_about cX7_about 2 (some .int)] rmX7_about (qPc g NL qT (qmem g S) [.ref (qa g 0), .int v1]) (qXi g out S2) (qXC g out S2) 1 6 (qA g) := by
  refine q_xmet (by decide) (Nat.le_of_ble_eq_true rfl) (fun p e s m args below meth c C hr hno => ?_)
  have C : qC g cX7_about RX7 2 p s m meth c := C
  show qR g NL qT 2 p l e rmX7_about s m args below meth c 0 0 (vx_MQ below (qXi g out S2) (qXC g out S2) args s 1 6 (qA g)) (qmem g S) 0 [(0, .ref (qa g 0)), (1, .int v1)] []
  unfold F7_about at h
  refine q_iload_n C 1 dX7_about_0 rfl rfl ?_
  rcases q_ite h with ⟨q1, h⟩ | ⟨q1, h⟩
  · refine q_tableIn (off := 47) (tgt := 48) C dX7_about_1 (by rw [q1]; decide) (by rw [q1]; decide) (by rw [q1]; rfl) (by decide) ?_
    refine q_aload_n C 0 dX7_about_48 rfl rfl ?_
    refine s_getr (a := 8) C lf7_33 ltp_0 kd_0 rfl dX7_about_49 ?_
    refine s_geti C lf7_106 ltp_8 kd_8 dX7_about_52 ?_
    exact q_xiret C hr h (by decide) (by decide) dX7_about_55
  rcases q_ite h with ⟨q2, h⟩ | ⟨q2, h⟩
  · refine q_tableIn (off := 55) (tgt := 56) C dX7_about_1 (by rw [q2]; decide) (by rw [q2]; decide) (by rw [q2]; rfl) (by decide) ?_
    refine q_aload_n C 0 dX7_about_56 rfl rfl ?_
    refine s_getr (a := 8) C lf7_33 ltp_0 kd_0 rfl dX7_about_57 ?_
    refine s_geti C lf7_103 ltp_8 kd_8 dX7_about_60 ?_
    exact q_xiret C hr h (by decide) (by decide) dX7_about_63
  rcases q_ite h with ⟨q3, h⟩ | ⟨q3, h⟩
  · refine q_tableIn (off := 63) (tgt := 64) C dX7_about_1 (by rw [q3]; decide) (by rw [q3]; decide) (by rw [q3]; rfl) (by decide) ?_
    refine q_aload_n C 0 dX7_about_64 rfl rfl ?_
    refine s_getr (a := 8) C lf7_33 ltp_0 kd_0 rfl dX7_about_65 ?_
    obtain ⟨r10, hc9, h⟩ := ob1_e h
    refine q_callVi0 C ltp_8 (qmem_o kd_8 (Nat.le_of_ble_eq_true rfl)) rfl rfl (kX5_closedStreets n 8 (tyT_8) S hc9) lm7_109 rfl (rest := []) rfl (Nat.le_of_ble_eq_true rfl) dX7_about_68 ⟨rfl, rfl, Nat.le_of_ble_eq_true rfl, Nat.le_of_ble_eq_true rfl, Nat.le_of_ble_eq_true rfl, Nat.le_of_ble_eq_true rfl⟩ ?_
    exact q_xiret C hr h (by decide) (by decide) dX7_about_71
  rcases q_ite h with ⟨q4, h⟩ | ⟨q4, h⟩
  · refine q_tableIn (off := 71) (tgt := 72) C dX7_about_1 (by rw [q4]; decide) (by rw [q4]; decide) (by rw [q4]; rfl) (by decide) ?_
    refine q_aload_n C 0 dX7_about_72 rfl rfl ?_
    refine s_getr (a := 8) C lf7_33 ltp_0 kd_0 rfl dX7_about_73 ?_
    refine s_geti C lf7_113 ltp_8 kd_8 dX7_about_76 ?_
    exact q_xiret C hr h (by decide) (by decide) dX7_about_79
  rcases q_ite h with ⟨q5, h⟩ | ⟨q5, h⟩
  · refine q_tableIn (off := 79) (tgt := 80) C dX7_about_1 (by rw [q5]; decide) (by rw [q5]; decide) (by rw [q5]; rfl) (by decide) ?_
    refine q_aload_n C 0 dX7_about_80 rfl rfl ?_
    refine s_getr (a := 8) C lf7_33 ltp_0 kd_0 rfl dX7_about_81 ?_
    refine s_geti C lf7_116 ltp_8 kd_8 dX7_about_84 ?_
    exact q_xiret C hr h (by decide) (by decide) dX7_about_87
  rcases q_ite h with ⟨q6, h⟩ | ⟨q6, h⟩
  · refine q_tableIn (off := 87) (tgt := 88) C dX7_about_1 (by rw [q6]; decide) (by rw [q6]; decide) (by rw [q6]; rfl) (by decide) ?_
    refine q_aload_n C 0 dX7_about_88 rfl rfl ?_
    refine q_aload_n C 0 dX7_about_89 rfl rfl ?_
    refine s_getr (a := 8) C lf7_33 ltp_0 kd_0 rfl dX7_about_90 ?_
    obtain ⟨r12, S13, hc11, h⟩ := ob2_e h
    refine q_callVi0 C ltp_0 (qmem_o kd_0 (Nat.le_of_ble_eq_true rfl)) rfl rfl (kX7_bestLengthIn n 8 (tyT_8) S hc11) lm7_119 rfl (rest := []) rfl (Nat.le_of_ble_eq_true rfl) dX7_about_93 ⟨rfl, rfl, Nat.le_of_ble_eq_true rfl, Nat.le_of_ble_eq_true rfl, Nat.le_of_ble_eq_true rfl, Nat.le_of_ble_eq_true rfl⟩ ?_
    exact q_xiret C hr h (by decide) (by decide) dX7_about_96
  rcases q_ite h with ⟨q7, h⟩ | ⟨q7, h⟩
  · refine q_tableIn (off := 96) (tgt := 97) C dX7_about_1 (by rw [q7]; decide) (by rw [q7]; decide) (by rw [q7]; rfl) (by decide) ?_
    refine q_aload_n C 0 dX7_about_97 rfl rfl ?_
    refine s_getr (a := 103) C lf7_57 ltp_0 kd_0 rfl dX7_about_98 ?_
    refine q_aload_n C 0 dX7_about_101 rfl rfl ?_
    refine s_getr (a := 8) C lf7_33 ltp_0 kd_0 rfl dX7_about_102 ?_
    obtain ⟨S15, hc14, h⟩ := ob1_e h
    refine q_callVv0 C ltp_103 (qmem_o kd_103 (Nat.le_of_ble_eq_true rfl)) rfl rfl (kX2_find n 103 (tyR_103) 8 (tyT_8) S hc14) lm7_123 rfl (rest := []) rfl (Nat.le_of_ble_eq_true rfl) dX7_about_105 ⟨rfl, rfl, Nat.le_of_ble_eq_true rfl, Nat.le_of_ble_eq_true rfl, Nat.le_of_ble_eq_true rfl, Nat.le_of_ble_eq_true rfl⟩ ?_
    refine q_aload_n C 0 dX7_about_108 rfl rfl ?_
    refine s_getr (a := 103) C lf7_57 ltp_0 kd_0 rfl dX7_about_109 ?_
    refine q_callVi0 C ltp_103 (qmem_o kd_103 (Nat.le_of_ble_eq_true rfl)) rfl rfl (kX2_streets 103 (tyR_103) S15) lm7_126 rfl (rest := []) rfl (Nat.le_of_ble_eq_true rfl) dX7_about_112 ⟨rfl, rfl, Nat.le_of_ble_eq_true rfl, Nat.le_of_ble_eq_true rfl, Nat.le_of_ble_eq_true rfl, Nat.le_of_ble_eq_true rfl⟩ ?_
    exact q_xiret C hr h (by decide) (by decide) dX7_about_115
  rcases q_ite h with ⟨q8, h⟩ | ⟨q8, h⟩
  · refine q_tableIn (off := 115) (tgt := 116) C dX7_about_1 (by rw [q8]; decide) (by rw [q8]; decide) (by rw [q8]; rfl) (by decide) ?_
    refine q_aload_n C 0 dX7_about_116 rfl rfl ?_
    obtain ⟨r17, S18, hc16, h⟩ := ob2_e h
    refine q_callVi0 C ltp_0 (qmem_o kd_0 (Nat.le_of_ble_eq_true rfl)) rfl rfl (kX7_neededStreets n S hc16) lm7_128 rfl (rest := []) rfl (Nat.le_of_ble_eq_true rfl) dX7_about_117 ⟨rfl, rfl, Nat.le_of_ble_eq_true rfl, Nat.le_of_ble_eq_true rfl, Nat.le_of_ble_eq_true rfl, Nat.le_of_ble_eq_true rfl⟩ ?_
    exact q_xiret C hr h (by decide) (by decide) dX7_about_120
  refine q_tableOut (tgt := 121) C dX7_about_1 (by have q1 := q_ne (k := 0) (by decide) q1; have q2 := q_ne (k := 1) (by decide) q2; have q3 := q_ne (k := 2) (by decide) q3; have q4 := q_ne (k := 3) (by decide) q4; have q5 := q_ne (k := 4) (by decide) q5; have q6 := q_ne (k := 5) (by decide) q6; have q7 := q_ne (k := 6) (by decide) q7; have q8 := q_ne (k := 7) (by decide) q8; omega) (by decide) ?_
  exact q_throw (i := 9) (tx := "no such number of the town") C hl9 lx7_E0 rfl h hno (Nat.le_of_ble_eq_true rfl) (Nat.le_of_ble_eq_true rfl) ⟨by decide, by decide⟩ ⟨by decide, by decide⟩ dX7_about_121 dX7_about_124 dX7_about_125 dX7_about_127 dX7_about_130
/-! ClosedStreets.requireStreet -/
abbrev rmX7_requireStreet : Room := { frames := 6, cells := 1, slots := 6, locals := 240 }
def F7_requireStreet (v1 : Int32) (S : qSt) : Option (qOut × qSt) := if ¬ (F5_hasStreet 8 v1 S) = 0 then (some (.inl 0, S)) else (some (.inr 2, S))
set_option maxRecDepth 100000 in
set_option maxHeartbeats 4000000 in
theorem kX7_requireStreet {l : Launch} {g : qG} (hl9 : l.stackTraces = false) (v1 : Int32) (S : qSt) {out : qOut} {S2 : qSt} (h : F7_requireStreet v1 S = some (out, S2)) : vx_Met l yX7_requireStreet [.code yX7_requireStreet cX7_requireStreet 2 none] rmX7_requireStreet (qPc g NL qT (qmem g S) [.ref (qa g 0), .int v1]) (qXv g out S2) (qXC g out S2) 1 6 (qA g) := by
  refine q_xmet (by decide) (Nat.le_of_ble_eq_true rfl) (fun p e s m args below meth c C hr hno => ?_)
  have C : qC g cX7_requireStreet RX7 2 p s m meth c := C
  show qR g NL qT 2 p l e rmX7_requireStreet s m args below meth c 0 0 (vx_MQ below (qXv g out S2) (qXC g out S2) args s 1 6 (qA g)) (qmem g S) 0 [(0, .ref (qa g 0)), (1, .int v1)] []
  unfold F7_requireStreet at h
  refine q_aload_n C 0 dX7_requireStreet_0 rfl rfl ?_
  refine s_getr (a := 8) C lf7_33 ltp_0 kd_0 rfl dX7_requireStreet_1 ?_
  refine q_iload_n C 1 dX7_requireStreet_4 rfl rfl ?_
  refine q_callVi0 C ltp_8 (qmem_o kd_8 (Nat.le_of_ble_eq_true rfl)) rfl rfl (kX5_hasStreet 8 (tyT_8) v1 S) lm7_301 rfl (rest := []) rfl (Nat.le_of_ble_eq_true rfl) dX7_requireStreet_5 ⟨rfl, rfl, Nat.le_of_ble_eq_true rfl, Nat.le_of_ble_eq_true rfl, Nat.le_of_ble_eq_true rfl, Nat.le_of_ble_eq_true rfl⟩ ?_
  refine q_if_ne (tgt := 22) C h dX7_requireStreet_8 (by decide) (fun h => ?_) (fun h => ?_)
  · exact q_xvret C hr h (by decide) (by decide) dX7_requireStreet_22
  · exact q_throwW (i := 10) (tx := "no such street") C hl9 lx7_E2 rfl h hno (Nat.le_of_ble_eq_true rfl) (Nat.le_of_ble_eq_true rfl) ⟨by decide, by decide⟩ ⟨by decide, by decide⟩ dX7_requireStreet_11 dX7_requireStreet_14 dX7_requireStreet_15 dX7_requireStreet_18 dX7_requireStreet_21
/-! ClosedStreets.street -/
abbrev rmX7_street : Room := { frames := 7, cells := 2, slots := 12, locals := 280 }
def F7_street (n : Nat) (v1 : Int32) (v2 : Int32) (S : qSt) : Option (qOut × qSt) := obx (F7_requireStreet v1 S) (fun r4 S3 => if v2 = 0 then (if qin v1 21 = true then some (.inl (S3 9 v1.toNatClampNeg), S3) else none) else if v2 = 1 then (if qin v1 21 = true then some (.inl (S3 10 v1.toNatClampNeg), S3) else none) else if v2 = 2 then (if qin v1 21 = true then some (.inl (S3 11 v1.toNatClampNeg), S3) else none) else if v2 = 3 then (if qin v1 21 = true then if (S3 12 v1.toNatClampNeg) = 0 then (some (.inl 0, S3)) else (some (.inl 1, S3)) else none) else if v2 = 4 then (ob1 (F2_find n 103 8 S3) fun S17 => ob1 (F2_uses 103 8 v1 S17) fun r19 => if r19 = 0 then (some (.inl 0, S17)) else (some (.inl 1, S17))) else (some (.inr 0, S3))) opx
set_option maxRecDepth 100000 in
set_option maxHeartbeats 4000000 in
theorem kX7_street {l : Launch} {g : qG} (hl9 : l.stackTraces = false) (n : Nat) (v1 : Int32) (v2 : Int32) (S : qSt) {out : qOut} {S2 : qSt} (h : F7_street n v1 v2 S = some (out, S2)) : vx_Met l yX7_street [.code yX7_street cX7_street 3 (some .int)] rmX7_street (qPc g NL qT (qmem g S) [.ref (qa g 0), .int v1, .int v2]) (qXi g out S2) (qXC g out S2) 2 12 (qA g) := by
  refine q_xmet (by decide) (Nat.le_of_ble_eq_true rfl) (fun p e s m args below meth c C hr hno => ?_)
  have C : qC g cX7_street RX7 3 p s m meth c := C
  show qR g NL qT 3 p l e rmX7_street s m args below meth c 0 0 (vx_MQ below (qXi g out S2) (qXC g out S2) args s 2 12 (qA g)) (qmem g S) 0 [(0, .ref (qa g 0)), (1, .int v1), (2, .int v2)] []
  unfold F7_street at h
  refine q_aload_n C 0 dX7_street_0 rfl rfl ?_
  refine q_iload_n C 1 dX7_street_1 rfl rfl ?_
  obtain ⟨o2, S3, hc1, h5, h6⟩ := obx_e h
  refine q_xcallVv C ltp_0 (qmem_o kd_0 (Nat.le_of_ble_eq_true rfl)) rfl rfl (kX7_requireStreet hl9 v1 S hc1) lm7_133 rfl (rest := []) rfl (Nat.le_of_ble_eq_true rfl) dX7_street_2 ⟨rfl, rfl, Nat.le_of_ble_eq_true rfl, Nat.le_of_ble_eq_true rfl, Nat.le_of_ble_eq_true rfl, Nat.le_of_ble_eq_true rfl⟩ hno ⟨by decide, by decide⟩ (fun k hk => opx_e (h6 k hk)) (fun r4 hr4 => ?_)
  have h := h5 r4 hr4
  refine q_widen (k := 1) (n := 6) (by decide) (by decide) ?_
  refine q_iload_n C 2 dX7_street_5 rfl rfl ?_
  rcases q_ite h with ⟨q7, h⟩ | ⟨q7, h⟩
  · refine q_tableIn (off := 34) (tgt := 40) C dX7_street_6 (by rw [q7]; decide) (by rw [q7]; decide) (by rw [q7]; rfl) (by decide) ?_
    refine q_aload_n C 0 dX7_street_40 rfl rfl ?_
    refine s_getr (a := 8) C lf7_33 ltp_0 kd_0 rfl dX7_street_41 ?_
    refine s_getr (a := 9) C lf7_137 ltp_8 kd_8 rfl dX7_street_44 ?_
    refine q_iload_n C 1 dX7_street_47 rfl rfl ?_
    obtain ⟨hb12, h⟩ := q_if h
    refine s_iald C ltp_9 kd_9 hb12 dX7_street_48 ?_
    exact q_xiret C hr h (by decide) (by decide) dX7_street_49
  rcases q_ite h with ⟨q8, h⟩ | ⟨q8, h⟩
  · refine q_tableIn (off := 44) (tgt := 50) C dX7_street_6 (by rw [q8]; decide) (by rw [q8]; decide) (by rw [q8]; rfl) (by decide) ?_
    refine q_aload_n C 0 dX7_street_50 rfl rfl ?_
    refine s_getr (a := 8) C lf7_33 ltp_0 kd_0 rfl dX7_street_51 ?_
    refine s_getr (a := 10) C lf7_141 ltp_8 kd_8 rfl dX7_street_54 ?_
    refine q_iload_n C 1 dX7_street_57 rfl rfl ?_
    obtain ⟨hb13, h⟩ := q_if h
    refine s_iald C ltp_10 kd_10 hb13 dX7_street_58 ?_
    exact q_xiret C hr h (by decide) (by decide) dX7_street_59
  rcases q_ite h with ⟨q9, h⟩ | ⟨q9, h⟩
  · refine q_tableIn (off := 54) (tgt := 60) C dX7_street_6 (by rw [q9]; decide) (by rw [q9]; decide) (by rw [q9]; rfl) (by decide) ?_
    refine q_aload_n C 0 dX7_street_60 rfl rfl ?_
    refine s_getr (a := 8) C lf7_33 ltp_0 kd_0 rfl dX7_street_61 ?_
    refine s_getr (a := 11) C lf7_144 ltp_8 kd_8 rfl dX7_street_64 ?_
    refine q_iload_n C 1 dX7_street_67 rfl rfl ?_
    obtain ⟨hb14, h⟩ := q_if h
    refine s_iald C ltp_11 kd_11 hb14 dX7_street_68 ?_
    exact q_xiret C hr h (by decide) (by decide) dX7_street_69
  rcases q_ite h with ⟨q10, h⟩ | ⟨q10, h⟩
  · refine q_tableIn (off := 64) (tgt := 70) C dX7_street_6 (by rw [q10]; decide) (by rw [q10]; decide) (by rw [q10]; rfl) (by decide) ?_
    refine q_aload_n C 0 dX7_street_70 rfl rfl ?_
    refine s_getr (a := 8) C lf7_33 ltp_0 kd_0 rfl dX7_street_71 ?_
    refine s_getr (a := 12) C lf7_146 ltp_8 kd_8 rfl dX7_street_74 ?_
    refine q_iload_n C 1 dX7_street_77 rfl rfl ?_
    obtain ⟨hb15, h⟩ := q_if h
    refine s_zald C ltp_12 kd_12 hb15 dX7_street_78 ?_
    refine q_if_eq (tgt := 86) C h dX7_street_79 (by decide) (fun h => ?_) (fun h => ?_)
    · refine q_iconst (v := 0) C dX7_street_86 (by decide) ?_
      exact q_xiret C hr h (by decide) (by decide) dX7_street_87
    · refine q_iconst (v := 1) C dX7_street_82 (by decide) ?_
      refine q_goto (tgt := 87) C dX7_street_83 (by decide) ?_
      exact q_xiret C hr h (by decide) (by decide) dX7_street_87
  rcases q_ite h with ⟨q11, h⟩ | ⟨q11, h⟩
  · refine q_tableIn (off := 82) (tgt := 88) C dX7_street_6 (by rw [q11]; decide) (by rw [q11]; decide) (by rw [q11]; rfl) (by decide) ?_
    refine q_aload_n C 0 dX7_street_88 rfl rfl ?_
    refine s_getr (a := 103) C lf7_57 ltp_0 kd_0 rfl dX7_street_89 ?_
    refine q_aload_n C 0 dX7_street_92 rfl rfl ?_
    refine s_getr (a := 8) C lf7_33 ltp_0 kd_0 rfl dX7_street_93 ?_
    obtain ⟨S17, hc16, h⟩ := ob1_e h
    refine q_callVv0 C ltp_103 (qmem_o kd_103 (Nat.le_of_ble_eq_true rfl)) rfl rfl (kX2_find n 103 (tyR_103) 8 (tyT_8) S3 hc16) lm7_123 rfl (rest := []) rfl (Nat.le_of_ble_eq_true rfl) dX7_street_96 ⟨rfl, rfl, Nat.le_of_ble_eq_true rfl, Nat.le_of_ble_eq_true rfl, Nat.le_of_ble_eq_true rfl, Nat.le_of_ble_eq_true rfl⟩ ?_
    refine q_aload_n C 0 dX7_street_99 rfl rfl ?_
    refine s_getr (a := 103) C lf7_57 ltp_0 kd_0 rfl dX7_street_100 ?_
    refine q_aload_n C 0 dX7_street_103 rfl rfl ?_
    refine s_getr (a := 8) C lf7_33 ltp_0 kd_0 rfl dX7_street_104 ?_
    refine q_iload_n C 1 dX7_street_107 rfl rfl ?_
    obtain ⟨r19, hc18, h⟩ := ob1_e h
    refine q_callVi0 C ltp_103 (qmem_o kd_103 (Nat.le_of_ble_eq_true rfl)) rfl rfl (kX2_uses 103 (tyR_103) 8 (tyT_8) v1 S17 hc18) lm7_150 rfl (rest := []) rfl (Nat.le_of_ble_eq_true rfl) dX7_street_108 ⟨rfl, rfl, Nat.le_of_ble_eq_true rfl, Nat.le_of_ble_eq_true rfl, Nat.le_of_ble_eq_true rfl, Nat.le_of_ble_eq_true rfl⟩ ?_
    refine q_if_eq (tgt := 118) C h dX7_street_111 (by decide) (fun h => ?_) (fun h => ?_)
    · refine q_iconst (v := 0) C dX7_street_118 (by decide) ?_
      exact q_xiret C hr h (by decide) (by decide) dX7_street_119
    · refine q_iconst (v := 1) C dX7_street_114 (by decide) ?_
      refine q_goto (tgt := 119) C dX7_street_115 (by decide) ?_
      exact q_xiret C hr h (by decide) (by decide) dX7_street_119
  refine q_tableOut (tgt := 120) C dX7_street_6 (by have q7 := q_ne (k := 0) (by decide) q7; have q8 := q_ne (k := 1) (by decide) q8; have q9 := q_ne (k := 2) (by decide) q9; have q10 := q_ne (k := 3) (by decide) q10; have q11 := q_ne (k := 4) (by decide) q11; omega) (by decide) ?_
  exact q_throw (i := 11) (tx := "no such number of a street") C hl9 lx7_E0 rfl h hno (Nat.le_of_ble_eq_true rfl) (Nat.le_of_ble_eq_true rfl) ⟨by decide, by decide⟩ ⟨by decide, by decide⟩ dX7_street_120 dX7_street_123 dX7_street_124 dX7_street_126 dX7_street_129
/-! ClosedStreets.requireCrossing -/
abbrev rmX7_requireCrossing : Room := { frames := 6, cells := 1, slots := 6, locals := 240 }
def F7_requireCrossing (v1 : Int32) (S : qSt) : Option (qOut × qSt) := if ¬ (F5_hasCrossing 8 v1 S) = 0 then (some (.inl 0, S)) else (some (.inr 2, S))
set_option maxRecDepth 100000 in
set_option maxHeartbeats 4000000 in
theorem kX7_requireCrossing {l : Launch} {g : qG} (hl9 : l.stackTraces = false) (v1 : Int32) (S : qSt) {out : qOut} {S2 : qSt} (h : F7_requireCrossing v1 S = some (out, S2)) : vx_Met l yX7_requireCrossing [.code yX7_requireCrossing cX7_requireCrossing 2 none] rmX7_requireCrossing (qPc g NL qT (qmem g S) [.ref (qa g 0), .int v1]) (qXv g out S2) (qXC g out S2) 1 6 (qA g) := by
  refine q_xmet (by decide) (Nat.le_of_ble_eq_true rfl) (fun p e s m args below meth c C hr hno => ?_)
  have C : qC g cX7_requireCrossing RX7 2 p s m meth c := C
  show qR g NL qT 2 p l e rmX7_requireCrossing s m args below meth c 0 0 (vx_MQ below (qXv g out S2) (qXC g out S2) args s 1 6 (qA g)) (qmem g S) 0 [(0, .ref (qa g 0)), (1, .int v1)] []
  unfold F7_requireCrossing at h
  refine q_aload_n C 0 dX7_requireCrossing_0 rfl rfl ?_
  refine s_getr (a := 8) C lf7_33 ltp_0 kd_0 rfl dX7_requireCrossing_1 ?_
  refine q_iload_n C 1 dX7_requireCrossing_4 rfl rfl ?_
  refine q_callVi0 C ltp_8 (qmem_o kd_8 (Nat.le_of_ble_eq_true rfl)) rfl rfl (kX5_hasCrossing 8 (tyT_8) v1 S) lm7_306 rfl (rest := []) rfl (Nat.le_of_ble_eq_true rfl) dX7_requireCrossing_5 ⟨rfl, rfl, Nat.le_of_ble_eq_true rfl, Nat.le_of_ble_eq_true rfl, Nat.le_of_ble_eq_true rfl, Nat.le_of_ble_eq_true rfl⟩ ?_
  refine q_if_ne (tgt := 22) C h dX7_requireCrossing_8 (by decide) (fun h => ?_) (fun h => ?_)
  · exact q_xvret C hr h (by decide) (by decide) dX7_requireCrossing_22
  · exact q_throwW (i := 12) (tx := "no such crossing") C hl9 lx7_E2 rfl h hno (Nat.le_of_ble_eq_true rfl) (Nat.le_of_ble_eq_true rfl) ⟨by decide, by decide⟩ ⟨by decide, by decide⟩ dX7_requireCrossing_11 dX7_requireCrossing_14 dX7_requireCrossing_15 dX7_requireCrossing_18 dX7_requireCrossing_21
/-! ClosedStreets.crossing -/
abbrev rmX7_crossing : Room := { frames := 7, cells := 2, slots := 12, locals := 280 }
def F7_crossing (n : Nat) (v1 : Int32) (v2 : Int32) (S : qSt) : Option (qOut × qSt) := obx (F7_requireCrossing v1 S) (fun r4 S3 => if v2 = 0 then (ob1 (F5_openStreetsAt n 8 v1 S3) fun r12 => some (.inl r12, S3)) else if v2 = 1 then (ob1 (F2_weigh n 103 8 (S3 8 2) S3) fun S14 => ob1 (F2_lengthFrom 103 v1 S14) fun r16 => some (.inl r16, S14)) else if v2 = 2 then (ob1 (F2_weigh n 103 8 (S3 8 3) S3) fun S18 => ob1 (F2_lengthFrom 103 v1 S18) fun r20 => some (.inl r20, S18)) else if v2 = 3 then (ob1 (F2_find n 103 8 S3) fun S22 => ob1 (F2_placeOf 103 v1 S22) fun r24 => some (.inl r24, S22)) else (some (.inr 0, S3))) opx
set_option maxRecDepth 100000 in
set_option maxHeartbeats 4000000 in
theorem kX7_crossing {l : Launch} {g : qG} (hl9 : l.stackTraces = false) (n : Nat) (v1 : Int32) (v2 : Int32) (S : qSt) {out : qOut} {S2 : qSt} (h : F7_crossing n v1 v2 S = some (out, S2)) : vx_Met l yX7_crossing [.code yX7_crossing cX7_crossing 3 (some .int)] rmX7_crossing (qPc g NL qT (qmem g S) [.ref (qa g 0), .int v1, .int v2]) (qXi g out S2) (qXC g out S2) 2 12 (qA g) := by
  refine q_xmet (by decide) (Nat.le_of_ble_eq_true rfl) (fun p e s m args below meth c C hr hno => ?_)
  have C : qC g cX7_crossing RX7 3 p s m meth c := C
  show qR g NL qT 3 p l e rmX7_crossing s m args below meth c 0 0 (vx_MQ below (qXi g out S2) (qXC g out S2) args s 2 12 (qA g)) (qmem g S) 0 [(0, .ref (qa g 0)), (1, .int v1), (2, .int v2)] []
  unfold F7_crossing at h
  refine q_aload_n C 0 dX7_crossing_0 rfl rfl ?_
  refine q_iload_n C 1 dX7_crossing_1 rfl rfl ?_
  obtain ⟨o2, S3, hc1, h5, h6⟩ := obx_e h
  refine q_xcallVv C ltp_0 (qmem_o kd_0 (Nat.le_of_ble_eq_true rfl)) rfl rfl (kX7_requireCrossing hl9 v1 S hc1) lm7_156 rfl (rest := []) rfl (Nat.le_of_ble_eq_true rfl) dX7_crossing_2 ⟨rfl, rfl, Nat.le_of_ble_eq_true rfl, Nat.le_of_ble_eq_true rfl, Nat.le_of_ble_eq_true rfl, Nat.le_of_ble_eq_true rfl⟩ hno ⟨by decide, by decide⟩ (fun k hk => opx_e (h6 k hk)) (fun r4 hr4 => ?_)
  have h := h5 r4 hr4
  refine q_widen (k := 1) (n := 6) (by decide) (by decide) ?_
  refine q_iload_n C 2 dX7_crossing_5 rfl rfl ?_
  rcases q_ite h with ⟨q7, h⟩ | ⟨q7, h⟩
  · refine q_tableIn (off := 30) (tgt := 36) C dX7_crossing_6 (by rw [q7]; decide) (by rw [q7]; decide) (by rw [q7]; rfl) (by decide) ?_
    refine q_aload_n C 0 dX7_crossing_36 rfl rfl ?_
    refine s_getr (a := 8) C lf7_33 ltp_0 kd_0 rfl dX7_crossing_37 ?_
    refine q_iload_n C 1 dX7_crossing_40 rfl rfl ?_
    obtain ⟨r12, hc11, h⟩ := ob1_e h
    refine q_callVi0 C ltp_8 (qmem_o kd_8 (Nat.le_of_ble_eq_true rfl)) rfl rfl (kX5_openStreetsAt n 8 (tyT_8) v1 S3 hc11) lm7_159 rfl (rest := []) rfl (Nat.le_of_ble_eq_true rfl) dX7_crossing_41 ⟨rfl, rfl, Nat.le_of_ble_eq_true rfl, Nat.le_of_ble_eq_true rfl, Nat.le_of_ble_eq_true rfl, Nat.le_of_ble_eq_true rfl⟩ ?_
    exact q_xiret C hr h (by decide) (by decide) dX7_crossing_44
  rcases q_ite h with ⟨q8, h⟩ | ⟨q8, h⟩
  · refine q_tableIn (off := 39) (tgt := 45) C dX7_crossing_6 (by rw [q8]; decide) (by rw [q8]; decide) (by rw [q8]; rfl) (by decide) ?_
    refine q_aload_n C 0 dX7_crossing_45 rfl rfl ?_
    refine s_getr (a := 103) C lf7_57 ltp_0 kd_0 rfl dX7_crossing_46 ?_
    refine q_aload_n C 0 dX7_crossing_49 rfl rfl ?_
    refine s_getr (a := 8) C lf7_33 ltp_0 kd_0 rfl dX7_crossing_50 ?_
    refine q_aload_n C 0 dX7_crossing_53 rfl rfl ?_
    refine s_getr (a := 8) C lf7_33 ltp_0 kd_0 rfl dX7_crossing_54 ?_
    refine s_geti C lf7_113 ltp_8 kd_8 dX7_crossing_57 ?_
    obtain ⟨S14, hc13, h⟩ := ob1_e h
    refine q_callVv0 C ltp_103 (qmem_o kd_103 (Nat.le_of_ble_eq_true rfl)) rfl rfl (kX2_weigh n 103 (tyR_103) 8 (tyT_8) (S3 8 2) S3 hc13) lm7_163 rfl (rest := []) rfl (Nat.le_of_ble_eq_true rfl) dX7_crossing_60 ⟨rfl, rfl, Nat.le_of_ble_eq_true rfl, Nat.le_of_ble_eq_true rfl, Nat.le_of_ble_eq_true rfl, Nat.le_of_ble_eq_true rfl⟩ ?_
    refine q_aload_n C 0 dX7_crossing_63 rfl rfl ?_
    refine s_getr (a := 103) C lf7_57 ltp_0 kd_0 rfl dX7_crossing_64 ?_
    refine q_iload_n C 1 dX7_crossing_67 rfl rfl ?_
    obtain ⟨r16, hc15, h⟩ := ob1_e h
    refine q_callVi0 C ltp_103 (qmem_o kd_103 (Nat.le_of_ble_eq_true rfl)) rfl rfl (kX2_lengthFrom 103 (tyR_103) v1 S14 hc15) lm7_167 rfl (rest := []) rfl (Nat.le_of_ble_eq_true rfl) dX7_crossing_68 ⟨rfl, rfl, Nat.le_of_ble_eq_true rfl, Nat.le_of_ble_eq_true rfl, Nat.le_of_ble_eq_true rfl, Nat.le_of_ble_eq_true rfl⟩ ?_
    exact q_xiret C hr h (by decide) (by decide) dX7_crossing_71
  rcases q_ite h with ⟨q9, h⟩ | ⟨q9, h⟩
  · refine q_tableIn (off := 66) (tgt := 72) C dX7_crossing_6 (by rw [q9]; decide) (by rw [q9]; decide) (by rw [q9]; rfl) (by decide) ?_
    refine q_aload_n C 0 dX7_crossing_72 rfl rfl ?_
    refine s_getr (a := 103) C lf7_57 ltp_0 kd_0 rfl dX7_crossing_73 ?_
    refine q_aload_n C 0 dX7_crossing_76 rfl rfl ?_
    refine s_getr (a := 8) C lf7_33 ltp_0 kd_0 rfl dX7_crossing_77 ?_
    refine q_aload_n C 0 dX7_crossing_80 rfl rfl ?_
    refine s_getr (a := 8) C lf7_33 ltp_0 kd_0 rfl dX7_crossing_81 ?_
    refine s_geti C lf7_116 ltp_8 kd_8 dX7_crossing_84 ?_
    obtain ⟨S18, hc17, h⟩ := ob1_e h
    refine q_callVv0 C ltp_103 (qmem_o kd_103 (Nat.le_of_ble_eq_true rfl)) rfl rfl (kX2_weigh n 103 (tyR_103) 8 (tyT_8) (S3 8 3) S3 hc17) lm7_163 rfl (rest := []) rfl (Nat.le_of_ble_eq_true rfl) dX7_crossing_87 ⟨rfl, rfl, Nat.le_of_ble_eq_true rfl, Nat.le_of_ble_eq_true rfl, Nat.le_of_ble_eq_true rfl, Nat.le_of_ble_eq_true rfl⟩ ?_
    refine q_aload_n C 0 dX7_crossing_90 rfl rfl ?_
    refine s_getr (a := 103) C lf7_57 ltp_0 kd_0 rfl dX7_crossing_91 ?_
    refine q_iload_n C 1 dX7_crossing_94 rfl rfl ?_
    obtain ⟨r20, hc19, h⟩ := ob1_e h
    refine q_callVi0 C ltp_103 (qmem_o kd_103 (Nat.le_of_ble_eq_true rfl)) rfl rfl (kX2_lengthFrom 103 (tyR_103) v1 S18 hc19) lm7_167 rfl (rest := []) rfl (Nat.le_of_ble_eq_true rfl) dX7_crossing_95 ⟨rfl, rfl, Nat.le_of_ble_eq_true rfl, Nat.le_of_ble_eq_true rfl, Nat.le_of_ble_eq_true rfl, Nat.le_of_ble_eq_true rfl⟩ ?_
    exact q_xiret C hr h (by decide) (by decide) dX7_crossing_98
  rcases q_ite h with ⟨q10, h⟩ | ⟨q10, h⟩
  · refine q_tableIn (off := 93) (tgt := 99) C dX7_crossing_6 (by rw [q10]; decide) (by rw [q10]; decide) (by rw [q10]; rfl) (by decide) ?_
    refine q_aload_n C 0 dX7_crossing_99 rfl rfl ?_
    refine s_getr (a := 103) C lf7_57 ltp_0 kd_0 rfl dX7_crossing_100 ?_
    refine q_aload_n C 0 dX7_crossing_103 rfl rfl ?_
    refine s_getr (a := 8) C lf7_33 ltp_0 kd_0 rfl dX7_crossing_104 ?_
    obtain ⟨S22, hc21, h⟩ := ob1_e h
    refine q_callVv0 C ltp_103 (qmem_o kd_103 (Nat.le_of_ble_eq_true rfl)) rfl rfl (kX2_find n 103 (tyR_103) 8 (tyT_8) S3 hc21) lm7_123 rfl (rest := []) rfl (Nat.le_of_ble_eq_true rfl) dX7_crossing_107 ⟨rfl, rfl, Nat.le_of_ble_eq_true rfl, Nat.le_of_ble_eq_true rfl, Nat.le_of_ble_eq_true rfl, Nat.le_of_ble_eq_true rfl⟩ ?_
    refine q_aload_n C 0 dX7_crossing_110 rfl rfl ?_
    refine s_getr (a := 103) C lf7_57 ltp_0 kd_0 rfl dX7_crossing_111 ?_
    refine q_iload_n C 1 dX7_crossing_114 rfl rfl ?_
    obtain ⟨r24, hc23, h⟩ := ob1_e h
    refine q_callVi0 C ltp_103 (qmem_o kd_103 (Nat.le_of_ble_eq_true rfl)) rfl rfl (kX2_placeOf 103 (tyR_103) v1 S22 hc23) lm7_170 rfl (rest := []) rfl (Nat.le_of_ble_eq_true rfl) dX7_crossing_115 ⟨rfl, rfl, Nat.le_of_ble_eq_true rfl, Nat.le_of_ble_eq_true rfl, Nat.le_of_ble_eq_true rfl, Nat.le_of_ble_eq_true rfl⟩ ?_
    exact q_xiret C hr h (by decide) (by decide) dX7_crossing_118
  refine q_tableOut (tgt := 119) C dX7_crossing_6 (by have q7 := q_ne (k := 0) (by decide) q7; have q8 := q_ne (k := 1) (by decide) q8; have q9 := q_ne (k := 2) (by decide) q9; have q10 := q_ne (k := 3) (by decide) q10; omega) (by decide) ?_
  exact q_throw (i := 13) (tx := "no such number of a crossing") C hl9 lx7_E0 rfl h hno (Nat.le_of_ble_eq_true rfl) (Nat.le_of_ble_eq_true rfl) ⟨by decide, by decide⟩ ⟨by decide, by decide⟩ dX7_crossing_119 dX7_crossing_122 dX7_crossing_123 dX7_crossing_125 dX7_crossing_128
/-! ClosedStreets.between -/
abbrev rmX7_between : Room := { frames := 7, cells := 2, slots := 12, locals := 280 }
def F7_between (n : Nat) (v1 : Int32) (v2 : Int32) (S : qSt) : Option (qOut × qSt) := obx (F7_requireCrossing v1 S) (fun r4 S3 => obx (F7_requireCrossing v2 S3) (fun r10 S9 => ob1 (F5_streetJoining n 8 v1 v2 S9) fun r14 => some (.inl r14, S9)) opx) opx
set_option maxRecDepth 100000 in
set_option maxHeartbeats 4000000 in
theorem kX7_between {l : Launch} {g : qG} (hl9 : l.stackTraces = false) (n : Nat) (v1 : Int32) (v2 : Int32) (S : qSt) {out : qOut} {S2 : qSt} (h : F7_between n v1 v2 S = some (out, S2)) : vx_Met l yX7_between [.code yX7_between cX7_between 3 (some .int)] rmX7_between (qPc g NL qT (qmem g S) [.ref (qa g 0), .int v1, .int v2]) (qXi g out S2) (qXC g out S2) 2 12 (qA g) := by
  refine q_xmet (by decide) (Nat.le_of_ble_eq_true rfl) (fun p e s m args below meth c C hr hno => ?_)
  have C : qC g cX7_between RX7 3 p s m meth c := C
  show qR g NL qT 3 p l e rmX7_between s m args below meth c 0 0 (vx_MQ below (qXi g out S2) (qXC g out S2) args s 2 12 (qA g)) (qmem g S) 0 [(0, .ref (qa g 0)), (1, .int v1), (2, .int v2)] []
  unfold F7_between at h
  refine q_aload_n C 0 dX7_between_0 rfl rfl ?_
  refine q_iload_n C 1 dX7_between_1 rfl rfl ?_
  obtain ⟨o2, S3, hc1, h5, h6⟩ := obx_e h
  refine q_xcallVv C ltp_0 (qmem_o kd_0 (Nat.le_of_ble_eq_true rfl)) rfl rfl (kX7_requireCrossing hl9 v1 S hc1) lm7_156 rfl (rest := []) rfl (Nat.le_of_ble_eq_true rfl) dX7_between_2 ⟨rfl, rfl, Nat.le_of_ble_eq_true rfl, Nat.le_of_ble_eq_true rfl, Nat.le_of_ble_eq_true rfl, Nat.le_of_ble_eq_true rfl⟩ hno ⟨by decide, by decide⟩ (fun k hk => opx_e (h6 k hk)) (fun r4 hr4 => ?_)
  have h := h5 r4 hr4
  refine q_widen (k := 1) (n := 6) (by decide) (by decide) ?_
  refine q_aload_n C 0 dX7_between_5 rfl rfl ?_
  refine q_iload_n C 2 dX7_between_6 rfl rfl ?_
  obtain ⟨o8, S9, hc7, h11, h12⟩ := obx_e h
  refine q_xcallVv C ltp_0 (qmem_o kd_0 (Nat.le_of_ble_eq_true rfl)) rfl rfl (kX7_requireCrossing hl9 v2 S3 hc7) lm7_156 rfl (rest := []) rfl (Nat.le_of_ble_eq_true rfl) dX7_between_7 ⟨rfl, rfl, Nat.le_of_ble_eq_true rfl, Nat.le_of_ble_eq_true rfl, Nat.le_of_ble_eq_true rfl, Nat.le_of_ble_eq_true rfl⟩ hno ⟨by decide, by decide⟩ (fun k hk => opx_e (h12 k hk)) (fun r10 hr10 => ?_)
  have h := h11 r10 hr10
  refine q_widen (k := 2) (n := 12) (by decide) (by decide) ?_
  refine q_aload_n C 0 dX7_between_10 rfl rfl ?_
  refine s_getr (a := 8) C lf7_33 ltp_0 kd_0 rfl dX7_between_11 ?_
  refine q_iload_n C 1 dX7_between_14 rfl rfl ?_
  refine q_iload_n C 2 dX7_between_15 rfl rfl ?_
  obtain ⟨r14, hc13, h⟩ := ob1_e h
  refine q_callVi0 C ltp_8 (qmem_o kd_8 (Nat.le_of_ble_eq_true rfl)) rfl rfl (kX5_streetJoining n 8 (tyT_8) v1 v2 S9 hc13) lm7_175 rfl (rest := []) rfl (Nat.le_of_ble_eq_true rfl) dX7_between_16 ⟨rfl, rfl, Nat.le_of_ble_eq_true rfl, Nat.le_of_ble_eq_true rfl, Nat.le_of_ble_eq_true rfl, Nat.le_of_ble_eq_true rfl⟩ ?_
  exact q_xiret C hr h (by decide) (by decide) dX7_between_19
/-! ClosedStreets.requirePlace -/
abbrev rmX7_requirePlace : Room := { frames := 6, cells := 1, slots := 6, locals := 240 }
def F7_requirePlace (v0 : Int32) (S : qSt) : Option (qOut × qSt) := if 0 ≤ v0 then (some (.inl 0, S)) else (some (.inr 0, S))
set_option maxRecDepth 100000 in
set_option maxHeartbeats 4000000 in
theorem kX7_requirePlace {l : Launch} {g : qG} (hl9 : l.stackTraces = false) (v0 : Int32) (S : qSt) {out : qOut} {S2 : qSt} (h : F7_requirePlace v0 S = some (out, S2)) : vx_Met l yX7_requirePlace [.code yX7_requirePlace cX7_requirePlace 1 none] rmX7_requirePlace (qPc g NL qT (qmem g S) [.int v0]) (qXv g out S2) (qXC g out S2) 1 6 (qA g) := by
  refine q_xmet (by decide) (Nat.le_of_ble_eq_true rfl) (fun p e s m args below meth c C hr hno => ?_)
  have C : qC g cX7_requirePlace RX7 1 p s m meth c := C
  show qR g NL qT 1 p l e rmX7_requirePlace s m args below meth c 0 0 (vx_MQ below (qXv g out S2) (qXC g out S2) args s 1 6 (qA g)) (qmem g S) 0 [(0, .int v0)] []
  unfold F7_requirePlace at h
  refine q_iload_n C 0 dX7_requirePlace_0 rfl rfl ?_
  refine q_if_ge (tgt := 15) C h dX7_requirePlace_1 (by decide) (fun h => ?_) (fun h => ?_)
  · exact q_xvret C hr h (by decide) (by decide) dX7_requirePlace_15
  · exact q_throwW (i := 14) (tx := "a place is 0 or more") C hl9 lx7_E0 rfl h hno (Nat.le_of_ble_eq_true rfl) (Nat.le_of_ble_eq_true rfl) ⟨by decide, by decide⟩ ⟨by decide, by decide⟩ dX7_requirePlace_4 dX7_requirePlace_7 dX7_requirePlace_8 dX7_requirePlace_11 dX7_requirePlace_14
/-! ClosedStreets.wayAt -/
abbrev rmX7_wayAt : Room := { frames := 7, cells := 1, slots := 6, locals := 280 }
def F7_wayAt (n : Nat) (v1 : Int32) (S : qSt) : Option (qOut × qSt) := obx (F7_requirePlace v1 S) (fun r4 S3 => ob1 (F2_find n 103 8 S3) fun S8 => ob1 (F2_crossingAt 103 v1 S8) fun r10 => some (.inl r10, S8)) opx
set_option maxRecDepth 100000 in
set_option maxHeartbeats 4000000 in
theorem kX7_wayAt {l : Launch} {g : qG} (hl9 : l.stackTraces = false) (n : Nat) (v1 : Int32) (S : qSt) {out : qOut} {S2 : qSt} (h : F7_wayAt n v1 S = some (out, S2)) : vx_Met l yX7_wayAt [.code yX7_wayAt cX7_wayAt 2 (some .int)] rmX7_wayAt (qPc g NL qT (qmem g S) [.ref (qa g 0), .int v1]) (qXi g out S2) (qXC g out S2) 1 6 (qA g) := by
  refine q_xmet (by decide) (Nat.le_of_ble_eq_true rfl) (fun p e s m args below meth c C hr hno => ?_)
  have C : qC g cX7_wayAt RX7 2 p s m meth c := C
  show qR g NL qT 2 p l e rmX7_wayAt s m args below meth c 0 0 (vx_MQ below (qXi g out S2) (qXC g out S2) args s 1 6 (qA g)) (qmem g S) 0 [(0, .ref (qa g 0)), (1, .int v1)] []
  unfold F7_wayAt at h
  refine q_iload_n C 1 dX7_wayAt_0 rfl rfl ?_
  obtain ⟨o2, S3, hc1, h5, h6⟩ := obx_e h
  refine q_xcallSv C (kX7_requirePlace hl9 v1 S hc1) lm7_179 rfl (rest := []) rfl (Nat.le_of_ble_eq_true rfl) dX7_wayAt_1 ⟨rfl, rfl, Nat.le_of_ble_eq_true rfl, Nat.le_of_ble_eq_true rfl, Nat.le_of_ble_eq_true rfl, Nat.le_of_ble_eq_true rfl⟩ hno ⟨by decide, by decide⟩ (fun k hk => opx_e (h6 k hk)) (fun r4 hr4 => ?_)
  have h := h5 r4 hr4
  refine q_widen (k := 1) (n := 6) (by decide) (by decide) ?_
  refine q_aload_n C 0 dX7_wayAt_4 rfl rfl ?_
  refine s_getr (a := 103) C lf7_57 ltp_0 kd_0 rfl dX7_wayAt_5 ?_
  refine q_aload_n C 0 dX7_wayAt_8 rfl rfl ?_
  refine s_getr (a := 8) C lf7_33 ltp_0 kd_0 rfl dX7_wayAt_9 ?_
  obtain ⟨S8, hc7, h⟩ := ob1_e h
  refine q_callVv0 C ltp_103 (qmem_o kd_103 (Nat.le_of_ble_eq_true rfl)) rfl rfl (kX2_find n 103 (tyR_103) 8 (tyT_8) S3 hc7) lm7_123 rfl (rest := []) rfl (Nat.le_of_ble_eq_true rfl) dX7_wayAt_12 ⟨rfl, rfl, Nat.le_of_ble_eq_true rfl, Nat.le_of_ble_eq_true rfl, Nat.le_of_ble_eq_true rfl, Nat.le_of_ble_eq_true rfl⟩ ?_
  refine q_aload_n C 0 dX7_wayAt_15 rfl rfl ?_
  refine s_getr (a := 103) C lf7_57 ltp_0 kd_0 rfl dX7_wayAt_16 ?_
  refine q_iload_n C 1 dX7_wayAt_19 rfl rfl ?_
  obtain ⟨r10, hc9, h⟩ := ob1_e h
  refine q_callVi0 C ltp_103 (qmem_o kd_103 (Nat.le_of_ble_eq_true rfl)) rfl rfl (kX2_crossingAt 103 (tyR_103) v1 S8 hc9) lm7_182 rfl (rest := []) rfl (Nat.le_of_ble_eq_true rfl) dX7_wayAt_20 ⟨rfl, rfl, Nat.le_of_ble_eq_true rfl, Nat.le_of_ble_eq_true rfl, Nat.le_of_ble_eq_true rfl, Nat.le_of_ble_eq_true rfl⟩ ?_
  exact q_xiret C hr h (by decide) (by decide) dX7_wayAt_23
/-! ClosedStreets.raise -/
abbrev rmX7_raise : Room := { frames := 6, cells := 1, slots := 6, locals := 240 }
def F7_raise (v0 : Int32) (S : qSt) : Option (qOut × qSt) := if ¬ v0 = 1 then (if ¬ v0 = 2 then (if ¬ v0 = 3 then (some (.inl 0, S)) else (some (.inr 1, S))) else (some (.inr 0, S))) else (some (.inr 2, S))
set_option maxRecDepth 100000 in
set_option maxHeartbeats 4000000 in
theorem kX7_raise {l : Launch} {g : qG} (hl9 : l.stackTraces = false) (v0 : Int32) (S : qSt) {out : qOut} {S2 : qSt} (h : F7_raise v0 S = some (out, S2)) : vx_Met l yX7_raise [.code yX7_raise cX7_raise 1 none] rmX7_raise (qPc g NL qT (qmem g S) [.int v0]) (qXv g out S2) (qXC g out S2) 1 6 (qA g) := by
  refine q_xmet (by decide) (Nat.le_of_ble_eq_true rfl) (fun p e s m args below meth c C hr hno => ?_)
  have C : qC g cX7_raise RX7 1 p s m meth c := C
  show qR g NL qT 1 p l e rmX7_raise s m args below meth c 0 0 (vx_MQ below (qXv g out S2) (qXC g out S2) args s 1 6 (qA g)) (qmem g S) 0 [(0, .int v0)] []
  unfold F7_raise at h
  refine q_iload_n C 0 dX7_raise_0 rfl rfl ?_
  refine q_iconst (v := 1) C dX7_raise_1 (by decide) ?_
  refine q_icmp_ne (tgt := 16) C h dX7_raise_2 (by decide) (fun h => ?_) (fun h => ?_)
  · refine q_iload_n C 0 dX7_raise_16 rfl rfl ?_
    refine q_iconst (v := 2) C dX7_raise_17 (by decide) ?_
    refine q_icmp_ne (tgt := 32) C h dX7_raise_18 (by decide) (fun h => ?_) (fun h => ?_)
    · refine q_iload_n C 0 dX7_raise_32 rfl rfl ?_
      refine q_iconst (v := 3) C dX7_raise_33 (by decide) ?_
      refine q_icmp_ne (tgt := 48) C h dX7_raise_34 (by decide) (fun h => ?_) (fun h => ?_)
      · exact q_xvret C hr h (by decide) (by decide) dX7_raise_48
      · exact q_throwW (i := 17) (tx := "the town does not allow it") C hl9 lx7_E1 rfl h hno (Nat.le_of_ble_eq_true rfl) (Nat.le_of_ble_eq_true rfl) ⟨by decide, by decide⟩ ⟨by decide, by decide⟩ dX7_raise_37 dX7_raise_40 dX7_raise_41 dX7_raise_44 dX7_raise_47
    · exact q_throwW (i := 16) (tx := "an argument is out of its range") C hl9 lx7_E0 rfl h hno (Nat.le_of_ble_eq_true rfl) (Nat.le_of_ble_eq_true rfl) ⟨by decide, by decide⟩ ⟨by decide, by decide⟩ dX7_raise_21 dX7_raise_24 dX7_raise_25 dX7_raise_28 dX7_raise_31
  · exact q_throwW (i := 15) (tx := "no such crossing or street") C hl9 lx7_E2 rfl h hno (Nat.le_of_ble_eq_true rfl) (Nat.le_of_ble_eq_true rfl) ⟨by decide, by decide⟩ ⟨by decide, by decide⟩ dX7_raise_5 dX7_raise_8 dX7_raise_9 dX7_raise_12 dX7_raise_15
/-! ClosedStreets.addCrossing -/
abbrev rmX7_addCrossing : Room := { frames := 7, cells := 1, slots := 6, locals := 280 }
def F7_addCrossing (n : Nat) (S : qSt) : Option (qOut × qSt) := ob1 (F5_copyFrom n 13 8 S) fun S2 => ob2 (F5_grow 13 S2) fun r4 S5 => obx (F7_raise r4 S5) (fun r9 S8 => ob1 (F7_acceptTrial n S8) fun S13 => some (.inl ((S13 8 0) - 1), S13)) opx
set_option maxRecDepth 100000 in
set_option maxHeartbeats 4000000 in
theorem kX7_addCrossing {l : Launch} {g : qG} (hl9 : l.stackTraces = false) (n : Nat) (S : qSt) {out : qOut} {S2 : qSt} (h : F7_addCrossing n S = some (out, S2)) : vx_Met l yX7_addCrossing [.code yX7_addCrossing cX7_addCrossing 1 (some .int)] rmX7_addCrossing (qPc g NL qT (qmem g S) [.ref (qa g 0)]) (qXi g out S2) (qXC g out S2) 1 6 (qA g) := by
  refine q_xmet (by decide) (Nat.le_of_ble_eq_true rfl) (fun p e s m args below meth c C hr hno => ?_)
  have C : qC g cX7_addCrossing RX7 1 p s m meth c := C
  show qR g NL qT 1 p l e rmX7_addCrossing s m args below meth c 0 0 (vx_MQ below (qXi g out S2) (qXC g out S2) args s 1 6 (qA g)) (qmem g S) 0 [(0, .ref (qa g 0))] []
  unfold F7_addCrossing at h
  refine q_aload_n C 0 dX7_addCrossing_0 rfl rfl ?_
  refine s_getr (a := 13) C lf7_37 ltp_0 kd_0 rfl dX7_addCrossing_1 ?_
  refine q_aload_n C 0 dX7_addCrossing_4 rfl rfl ?_
  refine s_getr (a := 8) C lf7_33 ltp_0 kd_0 rfl dX7_addCrossing_5 ?_
  obtain ⟨S2, hc1, h⟩ := ob1_e h
  refine q_callVv0 C ltp_13 (qmem_o kd_13 (Nat.le_of_ble_eq_true rfl)) rfl rfl (kX5_copyFrom n 13 (tyT_13) 8 (tyT_8) S hc1) lm7_93 rfl (rest := []) rfl (Nat.le_of_ble_eq_true rfl) dX7_addCrossing_8 ⟨rfl, rfl, Nat.le_of_ble_eq_true rfl, Nat.le_of_ble_eq_true rfl, Nat.le_of_ble_eq_true rfl, Nat.le_of_ble_eq_true rfl⟩ ?_
  refine q_aload_n C 0 dX7_addCrossing_11 rfl rfl ?_
  refine s_getr (a := 13) C lf7_37 ltp_0 kd_0 rfl dX7_addCrossing_12 ?_
  obtain ⟨r4, S5, hc3, h⟩ := ob2_e h
  refine q_callVi0 C ltp_13 (qmem_o kd_13 (Nat.le_of_ble_eq_true rfl)) rfl rfl (kX5_grow 13 (tyT_13) S2 hc3) lm7_185 rfl (rest := []) rfl (Nat.le_of_ble_eq_true rfl) dX7_addCrossing_15 ⟨rfl, rfl, Nat.le_of_ble_eq_true rfl, Nat.le_of_ble_eq_true rfl, Nat.le_of_ble_eq_true rfl, Nat.le_of_ble_eq_true rfl⟩ ?_
  obtain ⟨o7, S8, hc6, h10, h11⟩ := obx_e h
  refine q_xcallSv C (kX7_raise hl9 r4 S5 hc6) lm7_188 rfl (rest := []) rfl (Nat.le_of_ble_eq_true rfl) dX7_addCrossing_18 ⟨rfl, rfl, Nat.le_of_ble_eq_true rfl, Nat.le_of_ble_eq_true rfl, Nat.le_of_ble_eq_true rfl, Nat.le_of_ble_eq_true rfl⟩ hno ⟨by decide, by decide⟩ (fun k hk => opx_e (h11 k hk)) (fun r9 hr9 => ?_)
  have h := h10 r9 hr9
  refine q_widen (k := 1) (n := 6) (by decide) (by decide) ?_
  refine q_aload_n C 0 dX7_addCrossing_21 rfl rfl ?_
  obtain ⟨S13, hc12, h⟩ := ob1_e h
  refine q_callVv0 C ltp_0 (qmem_o kd_0 (Nat.le_of_ble_eq_true rfl)) rfl rfl (kX7_acceptTrial n S8 hc12) lm7_191 rfl (rest := []) rfl (Nat.le_of_ble_eq_true rfl) dX7_addCrossing_22 ⟨rfl, rfl, Nat.le_of_ble_eq_true rfl, Nat.le_of_ble_eq_true rfl, Nat.le_of_ble_eq_true rfl, Nat.le_of_ble_eq_true rfl⟩ ?_
  refine q_aload_n C 0 dX7_addCrossing_25 rfl rfl ?_
  refine s_getr (a := 8) C lf7_33 ltp_0 kd_0 rfl dX7_addCrossing_26 ?_
  refine s_geti C lf7_106 ltp_8 kd_8 dX7_addCrossing_29 ?_
  refine q_iconst (v := 1) C dX7_addCrossing_32 (by decide) ?_
  refine q_isub C dX7_addCrossing_33 ?_
  exact q_xiret C hr h (by decide) (by decide) dX7_addCrossing_34
/-! ClosedStreets.addStreet -/
abbrev rmX7_addStreet : Room := { frames := 7, cells := 1, slots := 6, locals := 280 }
def F7_addStreet (n : Nat) (v1 : Int32) (v2 : Int32) (v3 : Int32) (S : qSt) : Option (qOut × qSt) := ob1 (F5_copyFrom n 13 8 S) fun S2 => ob2 (F5_join n 13 v1 v2 v3 S2) fun r4 S5 => obx (F7_raise r4 S5) (fun r9 S8 => ob1 (F7_acceptTrial n S8) fun S13 => some (.inl ((S13 8 1) - 1), S13)) opx
set_option maxRecDepth 100000 in
set_option maxHeartbeats 4000000 in
theorem kX7_addStreet {l : Launch} {g : qG} (hl9 : l.stackTraces = false) (n : Nat) (v1 : Int32) (v2 : Int32) (v3 : Int32) (S : qSt) {out : qOut} {S2 : qSt} (h : F7_addStreet n v1 v2 v3 S = some (out, S2)) : vx_Met l yX7_addStreet [.code yX7_addStreet cX7_addStreet 4 (some .int)] rmX7_addStreet (qPc g NL qT (qmem g S) [.ref (qa g 0), .int v1, .int v2, .int v3]) (qXi g out S2) (qXC g out S2) 1 6 (qA g) := by
  refine q_xmet (by decide) (Nat.le_of_ble_eq_true rfl) (fun p e s m args below meth c C hr hno => ?_)
  have C : qC g cX7_addStreet RX7 4 p s m meth c := C
  show qR g NL qT 4 p l e rmX7_addStreet s m args below meth c 0 0 (vx_MQ below (qXi g out S2) (qXC g out S2) args s 1 6 (qA g)) (qmem g S) 0 [(0, .ref (qa g 0)), (1, .int v1), (2, .int v2), (3, .int v3)] []
  unfold F7_addStreet at h
  refine q_aload_n C 0 dX7_addStreet_0 rfl rfl ?_
  refine s_getr (a := 13) C lf7_37 ltp_0 kd_0 rfl dX7_addStreet_1 ?_
  refine q_aload_n C 0 dX7_addStreet_4 rfl rfl ?_
  refine s_getr (a := 8) C lf7_33 ltp_0 kd_0 rfl dX7_addStreet_5 ?_
  obtain ⟨S2, hc1, h⟩ := ob1_e h
  refine q_callVv0 C ltp_13 (qmem_o kd_13 (Nat.le_of_ble_eq_true rfl)) rfl rfl (kX5_copyFrom n 13 (tyT_13) 8 (tyT_8) S hc1) lm7_93 rfl (rest := []) rfl (Nat.le_of_ble_eq_true rfl) dX7_addStreet_8 ⟨rfl, rfl, Nat.le_of_ble_eq_true rfl, Nat.le_of_ble_eq_true rfl, Nat.le_of_ble_eq_true rfl, Nat.le_of_ble_eq_true rfl⟩ ?_
  refine q_aload_n C 0 dX7_addStreet_11 rfl rfl ?_
  refine s_getr (a := 13) C lf7_37 ltp_0 kd_0 rfl dX7_addStreet_12 ?_
  refine q_iload_n C 1 dX7_addStreet_15 rfl rfl ?_
  refine q_iload_n C 2 dX7_addStreet_16 rfl rfl ?_
  refine q_iload_n C 3 dX7_addStreet_17 rfl rfl ?_
  obtain ⟨r4, S5, hc3, h⟩ := ob2_e h
  refine q_callVi0 C ltp_13 (qmem_o kd_13 (Nat.le_of_ble_eq_true rfl)) rfl rfl (kX5_join n 13 (tyT_13) v1 v2 v3 S2 hc3) lm7_194 rfl (rest := []) rfl (Nat.le_of_ble_eq_true rfl) dX7_addStreet_18 ⟨rfl, rfl, Nat.le_of_ble_eq_true rfl, Nat.le_of_ble_eq_true rfl, Nat.le_of_ble_eq_true rfl, Nat.le_of_ble_eq_true rfl⟩ ?_
  obtain ⟨o7, S8, hc6, h10, h11⟩ := obx_e h
  refine q_xcallSv C (kX7_raise hl9 r4 S5 hc6) lm7_188 rfl (rest := []) rfl (Nat.le_of_ble_eq_true rfl) dX7_addStreet_21 ⟨rfl, rfl, Nat.le_of_ble_eq_true rfl, Nat.le_of_ble_eq_true rfl, Nat.le_of_ble_eq_true rfl, Nat.le_of_ble_eq_true rfl⟩ hno ⟨by decide, by decide⟩ (fun k hk => opx_e (h11 k hk)) (fun r9 hr9 => ?_)
  have h := h10 r9 hr9
  refine q_widen (k := 1) (n := 6) (by decide) (by decide) ?_
  refine q_aload_n C 0 dX7_addStreet_24 rfl rfl ?_
  obtain ⟨S13, hc12, h⟩ := ob1_e h
  refine q_callVv0 C ltp_0 (qmem_o kd_0 (Nat.le_of_ble_eq_true rfl)) rfl rfl (kX7_acceptTrial n S8 hc12) lm7_191 rfl (rest := []) rfl (Nat.le_of_ble_eq_true rfl) dX7_addStreet_25 ⟨rfl, rfl, Nat.le_of_ble_eq_true rfl, Nat.le_of_ble_eq_true rfl, Nat.le_of_ble_eq_true rfl, Nat.le_of_ble_eq_true rfl⟩ ?_
  refine q_aload_n C 0 dX7_addStreet_28 rfl rfl ?_
  refine s_getr (a := 8) C lf7_33 ltp_0 kd_0 rfl dX7_addStreet_29 ?_
  refine s_geti C lf7_103 ltp_8 kd_8 dX7_addStreet_32 ?_
  refine q_iconst (v := 1) C dX7_addStreet_35 (by decide) ?_
  refine q_isub C dX7_addStreet_36 ?_
  exact q_xiret C hr h (by decide) (by decide) dX7_addStreet_37
/-! ClosedStreets.removeStreet -/
abbrev rmX7_removeStreet : Room := { frames := 7, cells := 1, slots := 6, locals := 280 }
def F7_removeStreet (n : Nat) (v1 : Int32) (S : qSt) : Option (qOut × qSt) := ob1 (F5_copyFrom n 13 8 S) fun S2 => ob2 (F5_takeAway n 13 v1 S2) fun r4 S5 => obx (F7_raise r4 S5) (fun r9 S8 => ob1 (F7_acceptTrial n S8) fun S13 => ob2 (F7_bestLengthIn n 8 S13) fun r15 S16 => some (.inl r15, S16)) opx
set_option maxRecDepth 100000 in
set_option maxHeartbeats 4000000 in
theorem kX7_removeStreet {l : Launch} {g : qG} (hl9 : l.stackTraces = false) (n : Nat) (v1 : Int32) (S : qSt) {out : qOut} {S2 : qSt} (h : F7_removeStreet n v1 S = some (out, S2)) : vx_Met l yX7_removeStreet [.code yX7_removeStreet cX7_removeStreet 2 (some .int)] rmX7_removeStreet (qPc g NL qT (qmem g S) [.ref (qa g 0), .int v1]) (qXi g out S2) (qXC g out S2) 1 6 (qA g) := by
  refine q_xmet (by decide) (Nat.le_of_ble_eq_true rfl) (fun p e s m args below meth c C hr hno => ?_)
  have C : qC g cX7_removeStreet RX7 2 p s m meth c := C
  show qR g NL qT 2 p l e rmX7_removeStreet s m args below meth c 0 0 (vx_MQ below (qXi g out S2) (qXC g out S2) args s 1 6 (qA g)) (qmem g S) 0 [(0, .ref (qa g 0)), (1, .int v1)] []
  unfold F7_removeStreet at h
  refine q_aload_n C 0 dX7_removeStreet_0 rfl rfl ?_
  refine s_getr (a := 13) C lf7_37 ltp_0 kd_0 rfl dX7_removeStreet_1 ?_
  refine q_aload_n C 0 dX7_removeStreet_4 rfl rfl ?_
  refine s_getr (a := 8) C lf7_33 ltp_0 kd_0 rfl dX7_removeStreet_5 ?_
  obtain ⟨S2, hc1, h⟩ := ob1_e h
  refine q_callVv0 C ltp_13 (qmem_o kd_13 (Nat.le_of_ble_eq_true rfl)) rfl rfl (kX5_copyFrom n 13 (tyT_13) 8 (tyT_8) S hc1) lm7_93 rfl (rest := []) rfl (Nat.le_of_ble_eq_true rfl) dX7_removeStreet_8 ⟨rfl, rfl, Nat.le_of_ble_eq_true rfl, Nat.le_of_ble_eq_true rfl, Nat.le_of_ble_eq_true rfl, Nat.le_of_ble_eq_true rfl⟩ ?_
  refine q_aload_n C 0 dX7_removeStreet_11 rfl rfl ?_
  refine s_getr (a := 13) C lf7_37 ltp_0 kd_0 rfl dX7_removeStreet_12 ?_
  refine q_iload_n C 1 dX7_removeStreet_15 rfl rfl ?_
  obtain ⟨r4, S5, hc3, h⟩ := ob2_e h
  refine q_callVi0 C ltp_13 (qmem_o kd_13 (Nat.le_of_ble_eq_true rfl)) rfl rfl (kX5_takeAway n 13 (tyT_13) v1 S2 hc3) lm7_198 rfl (rest := []) rfl (Nat.le_of_ble_eq_true rfl) dX7_removeStreet_16 ⟨rfl, rfl, Nat.le_of_ble_eq_true rfl, Nat.le_of_ble_eq_true rfl, Nat.le_of_ble_eq_true rfl, Nat.le_of_ble_eq_true rfl⟩ ?_
  obtain ⟨o7, S8, hc6, h10, h11⟩ := obx_e h
  refine q_xcallSv C (kX7_raise hl9 r4 S5 hc6) lm7_188 rfl (rest := []) rfl (Nat.le_of_ble_eq_true rfl) dX7_removeStreet_19 ⟨rfl, rfl, Nat.le_of_ble_eq_true rfl, Nat.le_of_ble_eq_true rfl, Nat.le_of_ble_eq_true rfl, Nat.le_of_ble_eq_true rfl⟩ hno ⟨by decide, by decide⟩ (fun k hk => opx_e (h11 k hk)) (fun r9 hr9 => ?_)
  have h := h10 r9 hr9
  refine q_widen (k := 1) (n := 6) (by decide) (by decide) ?_
  refine q_aload_n C 0 dX7_removeStreet_22 rfl rfl ?_
  obtain ⟨S13, hc12, h⟩ := ob1_e h
  refine q_callVv0 C ltp_0 (qmem_o kd_0 (Nat.le_of_ble_eq_true rfl)) rfl rfl (kX7_acceptTrial n S8 hc12) lm7_191 rfl (rest := []) rfl (Nat.le_of_ble_eq_true rfl) dX7_removeStreet_23 ⟨rfl, rfl, Nat.le_of_ble_eq_true rfl, Nat.le_of_ble_eq_true rfl, Nat.le_of_ble_eq_true rfl, Nat.le_of_ble_eq_true rfl⟩ ?_
  refine q_aload_n C 0 dX7_removeStreet_26 rfl rfl ?_
  refine q_aload_n C 0 dX7_removeStreet_27 rfl rfl ?_
  refine s_getr (a := 8) C lf7_33 ltp_0 kd_0 rfl dX7_removeStreet_28 ?_
  obtain ⟨r15, S16, hc14, h⟩ := ob2_e h
  refine q_callVi0 C ltp_0 (qmem_o kd_0 (Nat.le_of_ble_eq_true rfl)) rfl rfl (kX7_bestLengthIn n 8 (tyT_8) S13 hc14) lm7_119 rfl (rest := []) rfl (Nat.le_of_ble_eq_true rfl) dX7_removeStreet_31 ⟨rfl, rfl, Nat.le_of_ble_eq_true rfl, Nat.le_of_ble_eq_true rfl, Nat.le_of_ble_eq_true rfl, Nat.le_of_ble_eq_true rfl⟩ ?_
  exact q_xiret C hr h (by decide) (by decide) dX7_removeStreet_34
/-! ClosedStreets.setLength -/
abbrev rmX7_setLength : Room := { frames := 7, cells := 1, slots := 6, locals := 280 }
def F7_setLength (n : Nat) (v1 : Int32) (v2 : Int32) (S : qSt) : Option (qOut × qSt) := ob1 (F5_copyFrom n 13 8 S) fun S2 => ob2 (F5_stretch 13 v1 v2 S2) fun r4 S5 => obx (F7_raise r4 S5) (fun r9 S8 => ob1 (F5_lengthOf 8 v1 S8) fun r13 => ob1 (F7_acceptTrial n S8) fun S15 => some (.inl r13, S15)) opx
set_option maxRecDepth 100000 in
set_option maxHeartbeats 4000000 in
theorem kX7_setLength {l : Launch} {g : qG} (hl9 : l.stackTraces = false) (n : Nat) (v1 : Int32) (v2 : Int32) (S : qSt) {out : qOut} {S2 : qSt} (h : F7_setLength n v1 v2 S = some (out, S2)) : vx_Met l yX7_setLength [.code yX7_setLength cX7_setLength 4 (some .int)] rmX7_setLength (qPc g NL qT (qmem g S) [.ref (qa g 0), .int v1, .int v2]) (qXi g out S2) (qXC g out S2) 1 6 (qA g) := by
  refine q_xmet (by decide) (Nat.le_of_ble_eq_true rfl) (fun p e s m args below meth c C hr hno => ?_)
  have C : qC g cX7_setLength RX7 4 p s m meth c := C
  show qR g NL qT 4 p l e rmX7_setLength s m args below meth c 0 0 (vx_MQ below (qXi g out S2) (qXC g out S2) args s 1 6 (qA g)) (qmem g S) 0 [(0, .ref (qa g 0)), (1, .int v1), (2, .int v2)] []
  unfold F7_setLength at h
  refine q_aload_n C 0 dX7_setLength_0 rfl rfl ?_
  refine s_getr (a := 13) C lf7_37 ltp_0 kd_0 rfl dX7_setLength_1 ?_
  refine q_aload_n C 0 dX7_setLength_4 rfl rfl ?_
  refine s_getr (a := 8) C lf7_33 ltp_0 kd_0 rfl dX7_setLength_5 ?_
  obtain ⟨S2, hc1, h⟩ := ob1_e h
  refine q_callVv0 C ltp_13 (qmem_o kd_13 (Nat.le_of_ble_eq_true rfl)) rfl rfl (kX5_copyFrom n 13 (tyT_13) 8 (tyT_8) S hc1) lm7_93 rfl (rest := []) rfl (Nat.le_of_ble_eq_true rfl) dX7_setLength_8 ⟨rfl, rfl, Nat.le_of_ble_eq_true rfl, Nat.le_of_ble_eq_true rfl, Nat.le_of_ble_eq_true rfl, Nat.le_of_ble_eq_true rfl⟩ ?_
  refine q_aload_n C 0 dX7_setLength_11 rfl rfl ?_
  refine s_getr (a := 13) C lf7_37 ltp_0 kd_0 rfl dX7_setLength_12 ?_
  refine q_iload_n C 1 dX7_setLength_15 rfl rfl ?_
  refine q_iload_n C 2 dX7_setLength_16 rfl rfl ?_
  obtain ⟨r4, S5, hc3, h⟩ := ob2_e h
  refine q_callVi0 C ltp_13 (qmem_o kd_13 (Nat.le_of_ble_eq_true rfl)) rfl rfl (kX5_stretch 13 (tyT_13) v1 v2 S2 hc3) lm7_201 rfl (rest := []) rfl (Nat.le_of_ble_eq_true rfl) dX7_setLength_17 ⟨rfl, rfl, Nat.le_of_ble_eq_true rfl, Nat.le_of_ble_eq_true rfl, Nat.le_of_ble_eq_true rfl, Nat.le_of_ble_eq_true rfl⟩ ?_
  obtain ⟨o7, S8, hc6, h10, h11⟩ := obx_e h
  refine q_xcallSv C (kX7_raise hl9 r4 S5 hc6) lm7_188 rfl (rest := []) rfl (Nat.le_of_ble_eq_true rfl) dX7_setLength_20 ⟨rfl, rfl, Nat.le_of_ble_eq_true rfl, Nat.le_of_ble_eq_true rfl, Nat.le_of_ble_eq_true rfl, Nat.le_of_ble_eq_true rfl⟩ hno ⟨by decide, by decide⟩ (fun k hk => opx_e (h11 k hk)) (fun r9 hr9 => ?_)
  have h := h10 r9 hr9
  refine q_widen (k := 1) (n := 6) (by decide) (by decide) ?_
  refine q_aload_n C 0 dX7_setLength_23 rfl rfl ?_
  refine s_getr (a := 8) C lf7_33 ltp_0 kd_0 rfl dX7_setLength_24 ?_
  refine q_iload_n C 1 dX7_setLength_27 rfl rfl ?_
  obtain ⟨r13, hc12, h⟩ := ob1_e h
  refine q_callVi0 C ltp_8 (qmem_o kd_8 (Nat.le_of_ble_eq_true rfl)) rfl rfl (kX5_lengthOf 8 (tyT_8) v1 S8 hc12) lm7_204 rfl (rest := []) rfl (Nat.le_of_ble_eq_true rfl) dX7_setLength_28 ⟨rfl, rfl, Nat.le_of_ble_eq_true rfl, Nat.le_of_ble_eq_true rfl, Nat.le_of_ble_eq_true rfl, Nat.le_of_ble_eq_true rfl⟩ ?_
  refine q_istore_n C (lv' := [(3, .int r13), (0, .ref (qa g 0)), (1, .int v1), (2, .int v2)]) dX7_setLength_31 rfl (by decide) rfl ?_
  refine q_norm [1, 2, 3, 0] rfl ?_
  refine q_aload_n C 0 dX7_setLength_32 rfl rfl ?_
  obtain ⟨S15, hc14, h⟩ := ob1_e h
  refine q_callVv0 C ltp_0 (qmem_o kd_0 (Nat.le_of_ble_eq_true rfl)) rfl rfl (kX7_acceptTrial n S8 hc14) lm7_191 rfl (rest := []) rfl (Nat.le_of_ble_eq_true rfl) dX7_setLength_33 ⟨rfl, rfl, Nat.le_of_ble_eq_true rfl, Nat.le_of_ble_eq_true rfl, Nat.le_of_ble_eq_true rfl, Nat.le_of_ble_eq_true rfl⟩ ?_
  refine q_iload_n C 3 dX7_setLength_36 rfl rfl ?_
  exact q_xiret C hr h (by decide) (by decide) dX7_setLength_37
/-! ClosedStreets.close -/
abbrev rmX7_close : Room := { frames := 7, cells := 1, slots := 6, locals := 280 }
def F7_close (n : Nat) (v1 : Int32) (v2 : Int32) (S : qSt) : Option (qOut × qSt) := ob1 (F5_copyFrom n 13 8 S) fun S2 => ob2 (F5_shut 13 v1 v2 S2) fun r4 S5 => obx (F7_raise r4 S5) (fun r9 S8 => ob1 (F7_acceptTrial n S8) fun S13 => ob2 (F7_bestLengthIn n 8 S13) fun r15 S16 => some (.inl r15, S16)) opx
set_option maxRecDepth 100000 in
set_option maxHeartbeats 4000000 in
theorem kX7_close {l : Launch} {g : qG} (hl9 : l.stackTraces = false) (n : Nat) (v1 : Int32) (v2 : Int32) (S : qSt) {out : qOut} {S2 : qSt} (h : F7_close n v1 v2 S = some (out, S2)) : vx_Met l yX7_close [.code yX7_close cX7_close 3 (some .int)] rmX7_close (qPc g NL qT (qmem g S) [.ref (qa g 0), .int v1, .int v2]) (qXi g out S2) (qXC g out S2) 1 6 (qA g) := by
  refine q_xmet (by decide) (Nat.le_of_ble_eq_true rfl) (fun p e s m args below meth c C hr hno => ?_)
  have C : qC g cX7_close RX7 3 p s m meth c := C
  show qR g NL qT 3 p l e rmX7_close s m args below meth c 0 0 (vx_MQ below (qXi g out S2) (qXC g out S2) args s 1 6 (qA g)) (qmem g S) 0 [(0, .ref (qa g 0)), (1, .int v1), (2, .int v2)] []
  unfold F7_close at h
  refine q_aload_n C 0 dX7_close_0 rfl rfl ?_
  refine s_getr (a := 13) C lf7_37 ltp_0 kd_0 rfl dX7_close_1 ?_
  refine q_aload_n C 0 dX7_close_4 rfl rfl ?_
  refine s_getr (a := 8) C lf7_33 ltp_0 kd_0 rfl dX7_close_5 ?_
  obtain ⟨S2, hc1, h⟩ := ob1_e h
  refine q_callVv0 C ltp_13 (qmem_o kd_13 (Nat.le_of_ble_eq_true rfl)) rfl rfl (kX5_copyFrom n 13 (tyT_13) 8 (tyT_8) S hc1) lm7_93 rfl (rest := []) rfl (Nat.le_of_ble_eq_true rfl) dX7_close_8 ⟨rfl, rfl, Nat.le_of_ble_eq_true rfl, Nat.le_of_ble_eq_true rfl, Nat.le_of_ble_eq_true rfl, Nat.le_of_ble_eq_true rfl⟩ ?_
  refine q_aload_n C 0 dX7_close_11 rfl rfl ?_
  refine s_getr (a := 13) C lf7_37 ltp_0 kd_0 rfl dX7_close_12 ?_
  refine q_iload_n C 1 dX7_close_15 rfl rfl ?_
  refine q_iload_n C 2 dX7_close_16 rfl rfl ?_
  obtain ⟨r4, S5, hc3, h⟩ := ob2_e h
  refine q_callVi0 C ltp_13 (qmem_o kd_13 (Nat.le_of_ble_eq_true rfl)) rfl rfl (kX5_shut 13 (tyT_13) v1 v2 S2 hc3) lm7_207 rfl (rest := []) rfl (Nat.le_of_ble_eq_true rfl) dX7_close_17 ⟨rfl, rfl, Nat.le_of_ble_eq_true rfl, Nat.le_of_ble_eq_true rfl, Nat.le_of_ble_eq_true rfl, Nat.le_of_ble_eq_true rfl⟩ ?_
  obtain ⟨o7, S8, hc6, h10, h11⟩ := obx_e h
  refine q_xcallSv C (kX7_raise hl9 r4 S5 hc6) lm7_188 rfl (rest := []) rfl (Nat.le_of_ble_eq_true rfl) dX7_close_20 ⟨rfl, rfl, Nat.le_of_ble_eq_true rfl, Nat.le_of_ble_eq_true rfl, Nat.le_of_ble_eq_true rfl, Nat.le_of_ble_eq_true rfl⟩ hno ⟨by decide, by decide⟩ (fun k hk => opx_e (h11 k hk)) (fun r9 hr9 => ?_)
  have h := h10 r9 hr9
  refine q_widen (k := 1) (n := 6) (by decide) (by decide) ?_
  refine q_aload_n C 0 dX7_close_23 rfl rfl ?_
  obtain ⟨S13, hc12, h⟩ := ob1_e h
  refine q_callVv0 C ltp_0 (qmem_o kd_0 (Nat.le_of_ble_eq_true rfl)) rfl rfl (kX7_acceptTrial n S8 hc12) lm7_191 rfl (rest := []) rfl (Nat.le_of_ble_eq_true rfl) dX7_close_24 ⟨rfl, rfl, Nat.le_of_ble_eq_true rfl, Nat.le_of_ble_eq_true rfl, Nat.le_of_ble_eq_true rfl, Nat.le_of_ble_eq_true rfl⟩ ?_
  refine q_aload_n C 0 dX7_close_27 rfl rfl ?_
  refine q_aload_n C 0 dX7_close_28 rfl rfl ?_
  refine s_getr (a := 8) C lf7_33 ltp_0 kd_0 rfl dX7_close_29 ?_
  obtain ⟨r15, S16, hc14, h⟩ := ob2_e h
  refine q_callVi0 C ltp_0 (qmem_o kd_0 (Nat.le_of_ble_eq_true rfl)) rfl rfl (kX7_bestLengthIn n 8 (tyT_8) S13 hc14) lm7_119 rfl (rest := []) rfl (Nat.le_of_ble_eq_true rfl) dX7_close_32 ⟨rfl, rfl, Nat.le_of_ble_eq_true rfl, Nat.le_of_ble_eq_true rfl, Nat.le_of_ble_eq_true rfl, Nat.le_of_ble_eq_true rfl⟩ ?_
  exact q_xiret C hr h (by decide) (by decide) dX7_close_35
/-! ClosedStreets.setEnds -/
abbrev rmX7_setEnds : Room := { frames := 7, cells := 1, slots := 6, locals := 280 }
def F7_setEnds (n : Nat) (v1 : Int32) (v2 : Int32) (S : qSt) : Option (qOut × qSt) := ob1 (F5_copyFrom n 13 8 S) fun S2 => ob2 (F5_direct 13 v1 v2 S2) fun r4 S5 => obx (F7_raise r4 S5) (fun r9 S8 => ob1 (F7_acceptTrial n S8) fun S13 => ob2 (F7_bestLengthIn n 8 S13) fun r15 S16 => some (.inl r15, S16)) opx
set_option maxRecDepth 100000 in
set_option maxHeartbeats 4000000 in
theorem kX7_setEnds {l : Launch} {g : qG} (hl9 : l.stackTraces = false) (n : Nat) (v1 : Int32) (v2 : Int32) (S : qSt) {out : qOut} {S2 : qSt} (h : F7_setEnds n v1 v2 S = some (out, S2)) : vx_Met l yX7_setEnds [.code yX7_setEnds cX7_setEnds 3 (some .int)] rmX7_setEnds (qPc g NL qT (qmem g S) [.ref (qa g 0), .int v1, .int v2]) (qXi g out S2) (qXC g out S2) 1 6 (qA g) := by
  refine q_xmet (by decide) (Nat.le_of_ble_eq_true rfl) (fun p e s m args below meth c C hr hno => ?_)
  have C : qC g cX7_setEnds RX7 3 p s m meth c := C
  show qR g NL qT 3 p l e rmX7_setEnds s m args below meth c 0 0 (vx_MQ below (qXi g out S2) (qXC g out S2) args s 1 6 (qA g)) (qmem g S) 0 [(0, .ref (qa g 0)), (1, .int v1), (2, .int v2)] []
  unfold F7_setEnds at h
  refine q_aload_n C 0 dX7_setEnds_0 rfl rfl ?_
  refine s_getr (a := 13) C lf7_37 ltp_0 kd_0 rfl dX7_setEnds_1 ?_
  refine q_aload_n C 0 dX7_setEnds_4 rfl rfl ?_
  refine s_getr (a := 8) C lf7_33 ltp_0 kd_0 rfl dX7_setEnds_5 ?_
  obtain ⟨S2, hc1, h⟩ := ob1_e h
  refine q_callVv0 C ltp_13 (qmem_o kd_13 (Nat.le_of_ble_eq_true rfl)) rfl rfl (kX5_copyFrom n 13 (tyT_13) 8 (tyT_8) S hc1) lm7_93 rfl (rest := []) rfl (Nat.le_of_ble_eq_true rfl) dX7_setEnds_8 ⟨rfl, rfl, Nat.le_of_ble_eq_true rfl, Nat.le_of_ble_eq_true rfl, Nat.le_of_ble_eq_true rfl, Nat.le_of_ble_eq_true rfl⟩ ?_
  refine q_aload_n C 0 dX7_setEnds_11 rfl rfl ?_
  refine s_getr (a := 13) C lf7_37 ltp_0 kd_0 rfl dX7_setEnds_12 ?_
  refine q_iload_n C 1 dX7_setEnds_15 rfl rfl ?_
  refine q_iload_n C 2 dX7_setEnds_16 rfl rfl ?_
  obtain ⟨r4, S5, hc3, h⟩ := ob2_e h
  refine q_callVi0 C ltp_13 (qmem_o kd_13 (Nat.le_of_ble_eq_true rfl)) rfl rfl (kX5_direct 13 (tyT_13) v1 v2 S2 hc3) lm7_211 rfl (rest := []) rfl (Nat.le_of_ble_eq_true rfl) dX7_setEnds_17 ⟨rfl, rfl, Nat.le_of_ble_eq_true rfl, Nat.le_of_ble_eq_true rfl, Nat.le_of_ble_eq_true rfl, Nat.le_of_ble_eq_true rfl⟩ ?_
  obtain ⟨o7, S8, hc6, h10, h11⟩ := obx_e h
  refine q_xcallSv C (kX7_raise hl9 r4 S5 hc6) lm7_188 rfl (rest := []) rfl (Nat.le_of_ble_eq_true rfl) dX7_setEnds_20 ⟨rfl, rfl, Nat.le_of_ble_eq_true rfl, Nat.le_of_ble_eq_true rfl, Nat.le_of_ble_eq_true rfl, Nat.le_of_ble_eq_true rfl⟩ hno ⟨by decide, by decide⟩ (fun k hk => opx_e (h11 k hk)) (fun r9 hr9 => ?_)
  have h := h10 r9 hr9
  refine q_widen (k := 1) (n := 6) (by decide) (by decide) ?_
  refine q_aload_n C 0 dX7_setEnds_23 rfl rfl ?_
  obtain ⟨S13, hc12, h⟩ := ob1_e h
  refine q_callVv0 C ltp_0 (qmem_o kd_0 (Nat.le_of_ble_eq_true rfl)) rfl rfl (kX7_acceptTrial n S8 hc12) lm7_191 rfl (rest := []) rfl (Nat.le_of_ble_eq_true rfl) dX7_setEnds_24 ⟨rfl, rfl, Nat.le_of_ble_eq_true rfl, Nat.le_of_ble_eq_true rfl, Nat.le_of_ble_eq_true rfl, Nat.le_of_ble_eq_true rfl⟩ ?_
  refine q_aload_n C 0 dX7_setEnds_27 rfl rfl ?_
  refine q_aload_n C 0 dX7_setEnds_28 rfl rfl ?_
  refine s_getr (a := 8) C lf7_33 ltp_0 kd_0 rfl dX7_setEnds_29 ?_
  obtain ⟨r15, S16, hc14, h⟩ := ob2_e h
  refine q_callVi0 C ltp_0 (qmem_o kd_0 (Nat.le_of_ble_eq_true rfl)) rfl rfl (kX7_bestLengthIn n 8 (tyT_8) S13 hc14) lm7_119 rfl (rest := []) rfl (Nat.le_of_ble_eq_true rfl) dX7_setEnds_32 ⟨rfl, rfl, Nat.le_of_ble_eq_true rfl, Nat.le_of_ble_eq_true rfl, Nat.le_of_ble_eq_true rfl, Nat.le_of_ble_eq_true rfl⟩ ?_
  exact q_xiret C hr h (by decide) (by decide) dX7_setEnds_35
/-! ClosedStreets.runPlan -/
abbrev rmX7_runPlan : Room := { frames := 7, cells := 1, slots := 6, locals := 280 }
def B7_runPlan_65 (n : Nat) (v1 : Int32) (S : qSt) : Option (qOut × qSt) := ob1 (F7_acceptTrial n S) fun S7 => some (.inl v1, S7)
set_option maxRecDepth 100000 in
set_option maxHeartbeats 4000000 in
theorem W7_runPlan_65 {out : qOut} {S2 : qSt} (C : qC g cX7_runPlan RX7 2 p s m meth c) (hr : meth.sig.returnType = (some .int)) (hno : ∀ x ∈ c.exceptionTable.toList, False) (hl9 : l.stackTraces = false) (n : Nat) (v1 : Int32) (S : qSt) (h : B7_runPlan_65 n v1 S = some (out, S2)) : qR g NL qT 2 p l e rmX7_runPlan s m args below meth c 0 0 (vx_MQ below (qXi g out S2) (qXC g out S2) args s 1 6 (qA g)) (qmem g S) 65 [(0, .ref (qa g 0)), (1, .int v1)] [] := by
  unfold B7_runPlan_65 at h
  refine q_aload_n C 0 dX7_runPlan_65 rfl rfl ?_
  obtain ⟨S7, hc6, h⟩ := ob1_e h
  refine q_callVv0 C ltp_0 (qmem_o kd_0 (Nat.le_of_ble_eq_true rfl)) rfl rfl (kX7_acceptTrial n S hc6) lm7_191 rfl (rest := []) rfl (Nat.le_of_ble_eq_true rfl) dX7_runPlan_66 ⟨rfl, rfl, Nat.le_of_ble_eq_true rfl, Nat.le_of_ble_eq_true rfl, Nat.le_of_ble_eq_true rfl, Nat.le_of_ble_eq_true rfl⟩ ?_
  refine q_iload_n C 1 dX7_runPlan_69 rfl rfl ?_
  exact q_xiret C hr h (by decide) (by decide) dX7_runPlan_70
def B7_runPlan_40 (n : Nat) : Nat → Int32 → qSt → Option (qOut × qSt)
  | 0, _, _ => none
  | n9 + 1, v1, S => if (S 4 0) ≤ v1 then (B7_runPlan_65 n v1 S) else (ob2 (F7_planCommandOnTrial v1 S) fun r9 S10 => if ¬ r9 = 0 then (B7_runPlan_65 n v1 S10) else ((B7_runPlan_40 n n9) (v1 + 1) S10))
set_option maxRecDepth 100000 in
set_option maxHeartbeats 4000000 in
theorem W7_runPlan_40 {out : qOut} {S2 : qSt} (C : qC g cX7_runPlan RX7 2 p s m meth c) (hr : meth.sig.returnType = (some .int)) (hno : ∀ x ∈ c.exceptionTable.toList, False) (hl9 : l.stackTraces = false) (n : Nat) : ∀ (n9 : Nat) (v1 : Int32) (S : qSt), B7_runPlan_40 n n9 v1 S = some (out, S2) → qR g NL qT 2 p l e rmX7_runPlan s m args below meth c 0 0 (vx_MQ below (qXi g out S2) (qXC g out S2) args s 1 6 (qA g)) (qmem g S) 40 [(0, .ref (qa g 0)), (1, .int v1)] [] := by
  intro n9
  induction n9 with
  | zero =>
    intro v1 S h
    have h9 : (none : Option (qOut × qSt)) = some (out, S2) := h
    cases h9
  | succ n9 ih =>
    intro v1 S h
    rw [B7_runPlan_40] at h
    refine q_iload_n C 1 dX7_runPlan_40 rfl rfl ?_
    refine q_aload_n C 0 dX7_runPlan_41 rfl rfl ?_
    refine s_getr (a := 4) C lf7_26 ltp_0 kd_0 rfl dX7_runPlan_42 ?_
    refine s_geti C lf7_216 ltp_4 kd_4 dX7_runPlan_45 ?_
    refine q_icmp_ge (tgt := 65) C h dX7_runPlan_48 (by decide) (fun h => ?_) (fun h => ?_)
    · exact W7_runPlan_65 C hr hno hl9 n v1 S h
    · refine q_aload_n C 0 dX7_runPlan_51 rfl rfl ?_
      refine q_iload_n C 1 dX7_runPlan_52 rfl rfl ?_
      obtain ⟨r9, S10, hc8, h⟩ := ob2_e h
      refine q_callVi0 C ltp_0 (qmem_o kd_0 (Nat.le_of_ble_eq_true rfl)) rfl rfl (kX7_planCommandOnTrial v1 S hc8) lm7_219 rfl (rest := []) rfl (Nat.le_of_ble_eq_true rfl) dX7_runPlan_53 ⟨rfl, rfl, Nat.le_of_ble_eq_true rfl, Nat.le_of_ble_eq_true rfl, Nat.le_of_ble_eq_true rfl, Nat.le_of_ble_eq_true rfl⟩ ?_
      refine q_if_ne (tgt := 65) C h dX7_runPlan_56 (by decide) (fun h => ?_) (fun h => ?_)
      · exact W7_runPlan_65 C hr hno hl9 n v1 S10 h
      · refine q_iinc C 1 (v := v1 + 1) (lv' := [(1, .int (v1 + 1)), (0, .ref (qa g 0))]) dX7_runPlan_59 rfl rfl (by decide) rfl ?_
        refine q_norm [1, 0] rfl ?_
        refine q_goto (tgt := 40) C dX7_runPlan_62 (by decide) ?_
        exact ih (v1 + 1) S10 h
def F7_runPlan (n : Nat) (S : qSt) : Option (qOut × qSt) := ob2 (F1_errorIn n S) fun r2 S3 => if r2 = (-999) then (ob1 (F5_copyFrom n 13 8 S3) fun S5 => B7_runPlan_40 n n 0 S5) else (some (.inr 1, S3))
set_option maxRecDepth 100000 in
set_option maxHeartbeats 4000000 in
theorem kX7_runPlan {l : Launch} {g : qG} (hl9 : l.stackTraces = false) (n : Nat) (S : qSt) {out : qOut} {S2 : qSt} (h : F7_runPlan n S = some (out, S2)) : vx_Met l yX7_runPlan [.code yX7_runPlan cX7_runPlan 2 (some .int)] rmX7_runPlan (qPc g NL qT (qmem g S) [.ref (qa g 0)]) (qXi g out S2) (qXC g out S2) 1 6 (qA g) := by
  refine q_xmet (by decide) (Nat.le_of_ble_eq_true rfl) (fun p e s m args below meth c C hr hno => ?_)
  have C : qC g cX7_runPlan RX7 2 p s m meth c := C
  show qR g NL qT 2 p l e rmX7_runPlan s m args below meth c 0 0 (vx_MQ below (qXi g out S2) (qXC g out S2) args s 1 6 (qA g)) (qmem g S) 0 [(0, .ref (qa g 0))] []
  unfold F7_runPlan at h
  refine q_aload_n C 0 dX7_runPlan_0 rfl rfl ?_
  refine s_getr (a := 4) C lf7_26 ltp_0 kd_0 rfl dX7_runPlan_1 ?_
  refine q_aload_n C 0 dX7_runPlan_4 rfl rfl ?_
  refine s_getr (a := 1) C lf7_10 ltp_0 kd_0 rfl dX7_runPlan_5 ?_
  obtain ⟨r2, S3, hc1, h⟩ := ob2_e h
  refine q_callVi0 C ltp_4 (qmem_o kd_4 (Nat.le_of_ble_eq_true rfl)) rfl rfl (kX1_errorIn n S hc1) lm7_84 rfl (rest := []) rfl (Nat.le_of_ble_eq_true rfl) dX7_runPlan_8 ⟨rfl, rfl, Nat.le_of_ble_eq_true rfl, Nat.le_of_ble_eq_true rfl, Nat.le_of_ble_eq_true rfl, Nat.le_of_ble_eq_true rfl⟩ ?_
  refine q_sipush (v := (-999)) C dX7_runPlan_11 (by decide) ?_
  refine q_icmp_eq (tgt := 27) C h dX7_runPlan_14 (by decide) (fun h => ?_) (fun h => ?_)
  · refine q_aload_n C 0 dX7_runPlan_27 rfl rfl ?_
    refine s_getr (a := 13) C lf7_37 ltp_0 kd_0 rfl dX7_runPlan_28 ?_
    refine q_aload_n C 0 dX7_runPlan_31 rfl rfl ?_
    refine s_getr (a := 8) C lf7_33 ltp_0 kd_0 rfl dX7_runPlan_32 ?_
    obtain ⟨S5, hc4, h⟩ := ob1_e h
    refine q_callVv0 C ltp_13 (qmem_o kd_13 (Nat.le_of_ble_eq_true rfl)) rfl rfl (kX5_copyFrom n 13 (tyT_13) 8 (tyT_8) S3 hc4) lm7_93 rfl (rest := []) rfl (Nat.le_of_ble_eq_true rfl) dX7_runPlan_35 ⟨rfl, rfl, Nat.le_of_ble_eq_true rfl, Nat.le_of_ble_eq_true rfl, Nat.le_of_ble_eq_true rfl, Nat.le_of_ble_eq_true rfl⟩ ?_
    refine q_iconst (v := 0) C dX7_runPlan_38 (by decide) ?_
    refine q_istore_n C (lv' := [(1, .int 0), (0, .ref (qa g 0))]) dX7_runPlan_39 rfl (by decide) rfl ?_
    refine q_norm [1, 0] rfl ?_
    exact W7_runPlan_40 C hr hno hl9 n n 0 S5 h
  · exact q_throw (i := 18) (tx := "the text is not a plan") C hl9 lx7_E1 rfl h hno (Nat.le_of_ble_eq_true rfl) (Nat.le_of_ble_eq_true rfl) ⟨by decide, by decide⟩ ⟨by decide, by decide⟩ dX7_runPlan_17 dX7_runPlan_20 dX7_runPlan_21 dX7_runPlan_23 dX7_runPlan_26
/-! ClosedStreets.undo -/
abbrev rmX7_undo : Room := { frames := 6, cells := 1, slots := 6, locals := 240 }
def F7_undo (n : Nat) (S : qSt) : Option (qOut × qSt) := if ¬ (S 18 2) = 0 then (ob1 (F0_takeBack n 8 S) fun S2 => some (.inl (S2 18 2), S2)) else (some (.inr 1, S))
set_option maxRecDepth 100000 in
set_option maxHeartbeats 4000000 in
theorem kX7_undo {l : Launch} {g : qG} (hl9 : l.stackTraces = false) (n : Nat) (S : qSt) {out : qOut} {S2 : qSt} (h : F7_undo n S = some (out, S2)) : vx_Met l yX7_undo [.code yX7_undo cX7_undo 1 (some .int)] rmX7_undo (qPc g NL qT (qmem g S) [.ref (qa g 0)]) (qXi g out S2) (qXC g out S2) 1 6 (qA g) := by
  refine q_xmet (by decide) (Nat.le_of_ble_eq_true rfl) (fun p e s m args below meth c C hr hno => ?_)
  have C : qC g cX7_undo RX7 1 p s m meth c := C
  show qR g NL qT 1 p l e rmX7_undo s m args below meth c 0 0 (vx_MQ below (qXi g out S2) (qXC g out S2) args s 1 6 (qA g)) (qmem g S) 0 [(0, .ref (qa g 0))] []
  unfold F7_undo at h
  refine q_aload_n C 0 dX7_undo_0 rfl rfl ?_
  refine s_getr (a := 18) C lf7_43 ltp_0 kd_0 rfl dX7_undo_1 ?_
  refine s_geti C lf7_222 ltp_18 kd_18 dX7_undo_4 ?_
  refine q_if_ne (tgt := 20) C h dX7_undo_7 (by decide) (fun h => ?_) (fun h => ?_)
  · refine q_aload_n C 0 dX7_undo_20 rfl rfl ?_
    refine s_getr (a := 18) C lf7_43 ltp_0 kd_0 rfl dX7_undo_21 ?_
    refine q_aload_n C 0 dX7_undo_24 rfl rfl ?_
    refine s_getr (a := 8) C lf7_33 ltp_0 kd_0 rfl dX7_undo_25 ?_
    obtain ⟨S2, hc1, h⟩ := ob1_e h
    refine q_callVv0 C ltp_18 (qmem_o kd_18 (Nat.le_of_ble_eq_true rfl)) rfl rfl (kX0_takeBack n 8 (tyT_8) S hc1) lm7_227 rfl (rest := []) rfl (Nat.le_of_ble_eq_true rfl) dX7_undo_28 ⟨rfl, rfl, Nat.le_of_ble_eq_true rfl, Nat.le_of_ble_eq_true rfl, Nat.le_of_ble_eq_true rfl, Nat.le_of_ble_eq_true rfl⟩ ?_
    refine q_aload_n C 0 dX7_undo_31 rfl rfl ?_
    refine s_getr (a := 18) C lf7_43 ltp_0 kd_0 rfl dX7_undo_32 ?_
    refine s_geti C lf7_222 ltp_18 kd_18 dX7_undo_35 ?_
    exact q_xiret C hr h (by decide) (by decide) dX7_undo_38
  · exact q_throw (i := 19) (tx := "no state is remembered") C hl9 lx7_E1 rfl h hno (Nat.le_of_ble_eq_true rfl) (Nat.le_of_ble_eq_true rfl) ⟨by decide, by decide⟩ ⟨by decide, by decide⟩ dX7_undo_10 dX7_undo_13 dX7_undo_14 dX7_undo_16 dX7_undo_19
/-! ClosedStreets.without -/
abbrev rmX7_without : Room := { frames := 7, cells := 1, slots := 6, locals := 280 }
def F7_without (n : Nat) (v1 : Int32) (S : qSt) : Option (qOut × qSt) := obx (F7_requireStreet v1 S) (fun r4 S3 => ob2 (F7_lengthWithout n v1 S3) fun r8 S9 => some (.inl r8, S9)) opx
set_option maxRecDepth 100000 in
set_option maxHeartbeats 4000000 in
theorem kX7_without {l : Launch} {g : qG} (hl9 : l.stackTraces = false) (n : Nat) (v1 : Int32) (S : qSt) {out : qOut} {S2 : qSt} (h : F7_without n v1 S = some (out, S2)) : vx_Met l yX7_without [.code yX7_without cX7_without 2 (some .int)] rmX7_without (qPc g NL qT (qmem g S) [.ref (qa g 0), .int v1]) (qXi g out S2) (qXC g out S2) 1 6 (qA g) := by
  refine q_xmet (by decide) (Nat.le_of_ble_eq_true rfl) (fun p e s m args below meth c C hr hno => ?_)
  have C : qC g cX7_without RX7 2 p s m meth c := C
  show qR g NL qT 2 p l e rmX7_without s m args below meth c 0 0 (vx_MQ below (qXi g out S2) (qXC g out S2) args s 1 6 (qA g)) (qmem g S) 0 [(0, .ref (qa g 0)), (1, .int v1)] []
  unfold F7_without at h
  refine q_aload_n C 0 dX7_without_0 rfl rfl ?_
  refine q_iload_n C 1 dX7_without_1 rfl rfl ?_
  obtain ⟨o2, S3, hc1, h5, h6⟩ := obx_e h
  refine q_xcallVv C ltp_0 (qmem_o kd_0 (Nat.le_of_ble_eq_true rfl)) rfl rfl (kX7_requireStreet hl9 v1 S hc1) lm7_133 rfl (rest := []) rfl (Nat.le_of_ble_eq_true rfl) dX7_without_2 ⟨rfl, rfl, Nat.le_of_ble_eq_true rfl, Nat.le_of_ble_eq_true rfl, Nat.le_of_ble_eq_true rfl, Nat.le_of_ble_eq_true rfl⟩ hno ⟨by decide, by decide⟩ (fun k hk => opx_e (h6 k hk)) (fun r4 hr4 => ?_)
  have h := h5 r4 hr4
  refine q_widen (k := 1) (n := 6) (by decide) (by decide) ?_
  refine q_aload_n C 0 dX7_without_5 rfl rfl ?_
  refine q_iload_n C 1 dX7_without_6 rfl rfl ?_
  obtain ⟨r8, S9, hc7, h⟩ := ob2_e h
  refine q_callVi0 C ltp_0 (qmem_o kd_0 (Nat.le_of_ble_eq_true rfl)) rfl rfl (kX7_lengthWithout n v1 S3 hc7) lm7_230 rfl (rest := []) rfl (Nat.le_of_ble_eq_true rfl) dX7_without_7 ⟨rfl, rfl, Nat.le_of_ble_eq_true rfl, Nat.le_of_ble_eq_true rfl, Nat.le_of_ble_eq_true rfl, Nat.le_of_ble_eq_true rfl⟩ ?_
  exact q_xiret C hr h (by decide) (by decide) dX7_without_10
/-! ClosedStreets.withoutAt -/
abbrev rmX7_withoutAt : Room := { frames := 7, cells := 2, slots := 12, locals := 280 }
def F7_withoutAt (n : Nat) (v1 : Int32) (v2 : Int32) (S : qSt) : Option (qOut × qSt) := obx (F7_requireStreet v1 S) (fun r4 S3 => obx (F7_requirePlace v2 S3) (fun r10 S9 => ob1 (F5_copyFrom n 13 8 S9) fun S14 => ob2 (F5_shut 13 v1 1 S14) fun r16 S17 => ob1 (F2_find n 107 13 S17) fun S19 => ob1 (F2_crossingAt 107 v2 S19) fun r21 => some (.inl r21, S19)) opx) opx
set_option maxRecDepth 100000 in
set_option maxHeartbeats 4000000 in
theorem kX7_withoutAt {l : Launch} {g : qG} (hl9 : l.stackTraces = false) (n : Nat) (v1 : Int32) (v2 : Int32) (S : qSt) {out : qOut} {S2 : qSt} (h : F7_withoutAt n v1 v2 S = some (out, S2)) : vx_Met l yX7_withoutAt [.code yX7_withoutAt cX7_withoutAt 3 (some .int)] rmX7_withoutAt (qPc g NL qT (qmem g S) [.ref (qa g 0), .int v1, .int v2]) (qXi g out S2) (qXC g out S2) 2 12 (qA g) := by
  refine q_xmet (by decide) (Nat.le_of_ble_eq_true rfl) (fun p e s m args below meth c C hr hno => ?_)
  have C : qC g cX7_withoutAt RX7 3 p s m meth c := C
  show qR g NL qT 3 p l e rmX7_withoutAt s m args below meth c 0 0 (vx_MQ below (qXi g out S2) (qXC g out S2) args s 2 12 (qA g)) (qmem g S) 0 [(0, .ref (qa g 0)), (1, .int v1), (2, .int v2)] []
  unfold F7_withoutAt at h
  refine q_aload_n C 0 dX7_withoutAt_0 rfl rfl ?_
  refine q_iload_n C 1 dX7_withoutAt_1 rfl rfl ?_
  obtain ⟨o2, S3, hc1, h5, h6⟩ := obx_e h
  refine q_xcallVv C ltp_0 (qmem_o kd_0 (Nat.le_of_ble_eq_true rfl)) rfl rfl (kX7_requireStreet hl9 v1 S hc1) lm7_133 rfl (rest := []) rfl (Nat.le_of_ble_eq_true rfl) dX7_withoutAt_2 ⟨rfl, rfl, Nat.le_of_ble_eq_true rfl, Nat.le_of_ble_eq_true rfl, Nat.le_of_ble_eq_true rfl, Nat.le_of_ble_eq_true rfl⟩ hno ⟨by decide, by decide⟩ (fun k hk => opx_e (h6 k hk)) (fun r4 hr4 => ?_)
  have h := h5 r4 hr4
  refine q_widen (k := 1) (n := 6) (by decide) (by decide) ?_
  refine q_iload_n C 2 dX7_withoutAt_5 rfl rfl ?_
  obtain ⟨o8, S9, hc7, h11, h12⟩ := obx_e h
  refine q_xcallSv C (kX7_requirePlace hl9 v2 S3 hc7) lm7_179 rfl (rest := []) rfl (Nat.le_of_ble_eq_true rfl) dX7_withoutAt_6 ⟨rfl, rfl, Nat.le_of_ble_eq_true rfl, Nat.le_of_ble_eq_true rfl, Nat.le_of_ble_eq_true rfl, Nat.le_of_ble_eq_true rfl⟩ hno ⟨by decide, by decide⟩ (fun k hk => opx_e (h12 k hk)) (fun r10 hr10 => ?_)
  have h := h11 r10 hr10
  refine q_widen (k := 2) (n := 12) (by decide) (by decide) ?_
  refine q_aload_n C 0 dX7_withoutAt_9 rfl rfl ?_
  refine s_getr (a := 13) C lf7_37 ltp_0 kd_0 rfl dX7_withoutAt_10 ?_
  refine q_aload_n C 0 dX7_withoutAt_13 rfl rfl ?_
  refine s_getr (a := 8) C lf7_33 ltp_0 kd_0 rfl dX7_withoutAt_14 ?_
  obtain ⟨S14, hc13, h⟩ := ob1_e h
  refine q_callVv0 C ltp_13 (qmem_o kd_13 (Nat.le_of_ble_eq_true rfl)) rfl rfl (kX5_copyFrom n 13 (tyT_13) 8 (tyT_8) S9 hc13) lm7_93 rfl (rest := []) rfl (Nat.le_of_ble_eq_true rfl) dX7_withoutAt_17 ⟨rfl, rfl, Nat.le_of_ble_eq_true rfl, Nat.le_of_ble_eq_true rfl, Nat.le_of_ble_eq_true rfl, Nat.le_of_ble_eq_true rfl⟩ ?_
  refine q_aload_n C 0 dX7_withoutAt_20 rfl rfl ?_
  refine s_getr (a := 13) C lf7_37 ltp_0 kd_0 rfl dX7_withoutAt_21 ?_
  refine q_iload_n C 1 dX7_withoutAt_24 rfl rfl ?_
  refine q_iconst (v := 1) C dX7_withoutAt_25 (by decide) ?_
  obtain ⟨r16, S17, hc15, h⟩ := ob2_e h
  refine q_callVi0 C ltp_13 (qmem_o kd_13 (Nat.le_of_ble_eq_true rfl)) rfl rfl (kX5_shut 13 (tyT_13) v1 1 S14 hc15) lm7_207 rfl (rest := []) rfl (Nat.le_of_ble_eq_true rfl) dX7_withoutAt_26 ⟨rfl, rfl, Nat.le_of_ble_eq_true rfl, Nat.le_of_ble_eq_true rfl, Nat.le_of_ble_eq_true rfl, Nat.le_of_ble_eq_true rfl⟩ ?_
  refine q_pop C dX7_withoutAt_29 rfl ?_
  refine q_aload_n C 0 dX7_withoutAt_30 rfl rfl ?_
  refine s_getr (a := 107) C lf7_61 ltp_0 kd_0 rfl dX7_withoutAt_31 ?_
  refine q_aload_n C 0 dX7_withoutAt_34 rfl rfl ?_
  refine s_getr (a := 13) C lf7_37 ltp_0 kd_0 rfl dX7_withoutAt_35 ?_
  obtain ⟨S19, hc18, h⟩ := ob1_e h
  refine q_callVv0 C ltp_107 (qmem_o kd_107 (Nat.le_of_ble_eq_true rfl)) rfl rfl (kX2_find n 107 (tyR_107) 13 (tyT_13) S17 hc18) lm7_123 rfl (rest := []) rfl (Nat.le_of_ble_eq_true rfl) dX7_withoutAt_38 ⟨rfl, rfl, Nat.le_of_ble_eq_true rfl, Nat.le_of_ble_eq_true rfl, Nat.le_of_ble_eq_true rfl, Nat.le_of_ble_eq_true rfl⟩ ?_
  refine q_aload_n C 0 dX7_withoutAt_41 rfl rfl ?_
  refine s_getr (a := 107) C lf7_61 ltp_0 kd_0 rfl dX7_withoutAt_42 ?_
  refine q_iload_n C 2 dX7_withoutAt_45 rfl rfl ?_
  obtain ⟨r21, hc20, h⟩ := ob1_e h
  refine q_callVi0 C ltp_107 (qmem_o kd_107 (Nat.le_of_ble_eq_true rfl)) rfl rfl (kX2_crossingAt 107 (tyR_107) v2 S19 hc20) lm7_182 rfl (rest := []) rfl (Nat.le_of_ble_eq_true rfl) dX7_withoutAt_46 ⟨rfl, rfl, Nat.le_of_ble_eq_true rfl, Nat.le_of_ble_eq_true rfl, Nat.le_of_ble_eq_true rfl, Nat.le_of_ble_eq_true rfl⟩ ?_
  exact q_xiret C hr h (by decide) (by decide) dX7_withoutAt_49
/-! ClosedStreets.upTo -/
abbrev rmX7_upTo : Room := { frames := 7, cells := 1, slots := 6, locals := 280 }
def B7_upTo_63 (n : Nat) (v2 : Int32) (S : qSt) : Option (qOut × qSt) := if ¬ v2 = 0 then (some (.inl v2, S)) else (some (.inl (-999), S))
set_option maxRecDepth 100000 in
set_option maxHeartbeats 4000000 in
theorem W7_upTo_63 {out : qOut} {S2 : qSt} (C : qC g cX7_upTo RX7 4 p s m meth c) (hr : meth.sig.returnType = (some .int)) (hno : ∀ x ∈ c.exceptionTable.toList, False) (hl9 : l.stackTraces = false) (n : Nat) (v2 : Int32) (S : qSt) (h : B7_upTo_63 n v2 S = some (out, S2)) : qR g NL qT 4 p l e rmX7_upTo s m args below meth c 1 6 (vx_MQ below (qXi g out S2) (qXC g out S2) args s 1 6 (qA g)) (qmem g S) 63 [(2, .int v2)] [] := by
  unfold B7_upTo_63 at h
  refine q_iload_n C 0 dX7_upTo_63 rfl rfl ?_
  refine q_if_ne (tgt := 73) C h dX7_upTo_64 (by decide) (fun h => ?_) (fun h => ?_)
  · refine q_iload_n C 0 dX7_upTo_73 rfl rfl ?_
    exact q_xiret C hr h (by decide) (by decide) dX7_upTo_74
  · refine q_sipush (v := (-999)) C dX7_upTo_67 (by decide) ?_
    refine q_goto (tgt := 74) C dX7_upTo_70 (by decide) ?_
    exact q_xiret C hr h (by decide) (by decide) dX7_upTo_74
def B7_upTo_56 (n : Nat) (K37 : Int32 → Int32 → Int32 → qSt → Option (qOut × qSt)) (v1 : Int32) (v2 : Int32) (v3 : Int32) (S : qSt) : Option (qOut × qSt) := K37 v1 v2 (v3 / 2) S
set_option maxRecDepth 100000 in
set_option maxHeartbeats 4000000 in
theorem W7_upTo_56 {out : qOut} {S2 : qSt} (C : qC g cX7_upTo RX7 4 p s m meth c) (hr : meth.sig.returnType = (some .int)) (hno : ∀ x ∈ c.exceptionTable.toList, False) (hl9 : l.stackTraces = false) (n : Nat) (K37 : Int32 → Int32 → Int32 → qSt → Option (qOut × qSt)) (hK37 : ∀ (v1 : Int32) (v2 : Int32) (v3 : Int32) (S : qSt), K37 v1 v2 v3 S = some (out, S2) → qR g NL qT 4 p l e rmX7_upTo s m args below meth c 1 6 (vx_MQ below (qXi g out S2) (qXC g out S2) args s 1 6 (qA g)) (qmem g S) 37 [(0, .ref (qa g 0)), (1, .int v1), (2, .int v2), (3, .int v3)] []) (v1 : Int32) (v2 : Int32) (v3 : Int32) (S : qSt) (h : B7_upTo_56 n K37 v1 v2 v3 S = some (out, S2)) : qR g NL qT 4 p l e rmX7_upTo s m args below meth c 1 6 (vx_MQ below (qXi g out S2) (qXC g out S2) args s 1 6 (qA g)) (qmem g S) 56 [(0, .ref (qa g 0)), (1, .int v1), (2, .int v2), (3, .int v3)] [] := by
  unfold B7_upTo_56 at h
  refine q_iload_n C 3 dX7_upTo_56 rfl rfl ?_
  refine q_iconst (v := 2) C dX7_upTo_57 (by decide) ?_
  refine q_idiv C dX7_upTo_58 (by decide) ?_
  refine q_istore_n C (lv' := [(3, .int (v3 / 2)), (0, .ref (qa g 0)), (1, .int v1), (2, .int v2)]) dX7_upTo_59 rfl (by decide) rfl ?_
  refine q_norm [1, 2, 3, 0] rfl ?_
  refine q_goto (tgt := 37) C dX7_upTo_60 (by decide) ?_
  exact hK37 v1 v2 (v3 / 2) S h
def B7_upTo_37 (n : Nat) : Nat → Int32 → Int32 → Int32 → qSt → Option (qOut × qSt)
  | 0, _, _, _, _ => none
  | n9 + 1, v1, v2, v3, S => if v3 ≤ 0 then (B7_upTo_63 n v2 S) else (ob2 (F7_isOnBestWayWithLength n v1 (v2 + v3) S) fun r11 S12 => if r11 = 0 then (B7_upTo_56 n (B7_upTo_37 n n9) v1 v2 v3 S12) else (B7_upTo_56 n (B7_upTo_37 n n9) v1 (v2 + v3) v3 S12))
set_option maxRecDepth 100000 in
set_option maxHeartbeats 4000000 in
theorem W7_upTo_37 {out : qOut} {S2 : qSt} (C : qC g cX7_upTo RX7 4 p s m meth c) (hr : meth.sig.returnType = (some .int)) (hno : ∀ x ∈ c.exceptionTable.toList, False) (hl9 : l.stackTraces = false) (n : Nat) : ∀ (n9 : Nat) (v1 : Int32) (v2 : Int32) (v3 : Int32) (S : qSt), B7_upTo_37 n n9 v1 v2 v3 S = some (out, S2) → qR g NL qT 4 p l e rmX7_upTo s m args below meth c 1 6 (vx_MQ below (qXi g out S2) (qXC g out S2) args s 1 6 (qA g)) (qmem g S) 37 [(0, .ref (qa g 0)), (1, .int v1), (2, .int v2), (3, .int v3)] [] := by
  intro n9
  induction n9 with
  | zero =>
    intro v1 v2 v3 S h
    have h9 : (none : Option (qOut × qSt)) = some (out, S2) := h
    cases h9
  | succ n9 ih =>
    intro v1 v2 v3 S h
    rw [B7_upTo_37] at h
    refine q_iload_n C 3 dX7_upTo_37 rfl rfl ?_
    refine q_if_le (tgt := 63) C h dX7_upTo_38 (by decide) (fun h => ?_) (fun h => ?_)
    · refine q_norm [2] rfl ?_
      exact W7_upTo_63 C hr hno hl9 n v2 S h
    · refine q_aload_n C 0 dX7_upTo_41 rfl rfl ?_
      refine q_iload_n C 1 dX7_upTo_42 rfl rfl ?_
      refine q_iload_n C 2 dX7_upTo_43 rfl rfl ?_
      refine q_iload_n C 3 dX7_upTo_44 rfl rfl ?_
      refine q_iadd C dX7_upTo_45 ?_
      obtain ⟨r11, S12, hc10, h⟩ := ob2_e h
      refine q_callVi0 C ltp_0 (qmem_o kd_0 (Nat.le_of_ble_eq_true rfl)) rfl rfl (kX7_isOnBestWayWithLength n v1 (v2 + v3) S hc10) lm7_233 rfl (rest := []) rfl (Nat.le_of_ble_eq_true rfl) dX7_upTo_46 ⟨rfl, rfl, Nat.le_of_ble_eq_true rfl, Nat.le_of_ble_eq_true rfl, Nat.le_of_ble_eq_true rfl, Nat.le_of_ble_eq_true rfl⟩ ?_
      refine q_if_eq (tgt := 56) C h dX7_upTo_49 (by decide) (fun h => ?_) (fun h => ?_)
      · exact W7_upTo_56 C hr hno hl9 n (B7_upTo_37 n n9) ih v1 v2 v3 S12 h
      · refine q_iload_n C 2 dX7_upTo_52 rfl rfl ?_
        refine q_iload_n C 3 dX7_upTo_53 rfl rfl ?_
        refine q_iadd C dX7_upTo_54 ?_
        refine q_istore_n C (lv' := [(2, .int (v2 + v3)), (0, .ref (qa g 0)), (1, .int v1), (3, .int v3)]) dX7_upTo_55 rfl (by decide) rfl ?_
        refine q_norm [1, 2, 0, 3] rfl ?_
        exact W7_upTo_56 C hr hno hl9 n (B7_upTo_37 n n9) ih v1 (v2 + v3) v3 S12 h
def F7_upTo (n : Nat) (v1 : Int32) (S : qSt) : Option (qOut × qSt) := obx (F7_requireStreet v1 S) (fun r4 S3 => if qin v1 21 = true then if (S3 12 v1.toNatClampNeg) = 0 then (ob1 (F5_copyFrom n 13 8 S3) fun S9 => B7_upTo_37 n n v1 0 64 S9) else (some (.inl (-999), S3)) else none) opx
set_option maxRecDepth 100000 in
set_option maxHeartbeats 4000000 in
theorem kX7_upTo {l : Launch} {g : qG} (hl9 : l.stackTraces = false) (n : Nat) (v1 : Int32) (S : qSt) {out : qOut} {S2 : qSt} (h : F7_upTo n v1 S = some (out, S2)) : vx_Met l yX7_upTo [.code yX7_upTo cX7_upTo 4 (some .int)] rmX7_upTo (qPc g NL qT (qmem g S) [.ref (qa g 0), .int v1]) (qXi g out S2) (qXC g out S2) 1 6 (qA g) := by
  refine q_xmet (by decide) (Nat.le_of_ble_eq_true rfl) (fun p e s m args below meth c C hr hno => ?_)
  have C : qC g cX7_upTo RX7 4 p s m meth c := C
  show qR g NL qT 4 p l e rmX7_upTo s m args below meth c 0 0 (vx_MQ below (qXi g out S2) (qXC g out S2) args s 1 6 (qA g)) (qmem g S) 0 [(0, .ref (qa g 0)), (1, .int v1)] []
  unfold F7_upTo at h
  refine q_aload_n C 0 dX7_upTo_0 rfl rfl ?_
  refine q_iload_n C 1 dX7_upTo_1 rfl rfl ?_
  obtain ⟨o2, S3, hc1, h5, h6⟩ := obx_e h
  refine q_xcallVv C ltp_0 (qmem_o kd_0 (Nat.le_of_ble_eq_true rfl)) rfl rfl (kX7_requireStreet hl9 v1 S hc1) lm7_133 rfl (rest := []) rfl (Nat.le_of_ble_eq_true rfl) dX7_upTo_2 ⟨rfl, rfl, Nat.le_of_ble_eq_true rfl, Nat.le_of_ble_eq_true rfl, Nat.le_of_ble_eq_true rfl, Nat.le_of_ble_eq_true rfl⟩ hno ⟨by decide, by decide⟩ (fun k hk => opx_e (h6 k hk)) (fun r4 hr4 => ?_)
  have h := h5 r4 hr4
  refine q_widen (k := 1) (n := 6) (by decide) (by decide) ?_
  refine q_aload_n C 0 dX7_upTo_5 rfl rfl ?_
  refine s_getr (a := 8) C lf7_33 ltp_0 kd_0 rfl dX7_upTo_6 ?_
  refine s_getr (a := 12) C lf7_146 ltp_8 kd_8 rfl dX7_upTo_9 ?_
  refine q_iload_n C 1 dX7_upTo_12 rfl rfl ?_
  obtain ⟨hb7, h⟩ := q_if h
  refine s_zald C ltp_12 kd_12 hb7 dX7_upTo_13 ?_
  refine q_if_eq (tgt := 21) C h dX7_upTo_14 (by decide) (fun h => ?_) (fun h => ?_)
  · refine q_aload_n C 0 dX7_upTo_21 rfl rfl ?_
    refine s_getr (a := 13) C lf7_37 ltp_0 kd_0 rfl dX7_upTo_22 ?_
    refine q_aload_n C 0 dX7_upTo_25 rfl rfl ?_
    refine s_getr (a := 8) C lf7_33 ltp_0 kd_0 rfl dX7_upTo_26 ?_
    obtain ⟨S9, hc8, h⟩ := ob1_e h
    refine q_callVv0 C ltp_13 (qmem_o kd_13 (Nat.le_of_ble_eq_true rfl)) rfl rfl (kX5_copyFrom n 13 (tyT_13) 8 (tyT_8) S3 hc8) lm7_93 rfl (rest := []) rfl (Nat.le_of_ble_eq_true rfl) dX7_upTo_29 ⟨rfl, rfl, Nat.le_of_ble_eq_true rfl, Nat.le_of_ble_eq_true rfl, Nat.le_of_ble_eq_true rfl, Nat.le_of_ble_eq_true rfl⟩ ?_
    refine q_iconst (v := 0) C dX7_upTo_32 (by decide) ?_
    refine q_istore_n C (lv' := [(2, .int 0), (0, .ref (qa g 0)), (1, .int v1)]) dX7_upTo_33 rfl (by decide) rfl ?_
    refine q_norm [1, 2, 0] rfl ?_
    refine q_bipush (v := 64) C dX7_upTo_34 (by decide) ?_
    refine q_istore_n C (lv' := [(3, .int 64), (0, .ref (qa g 0)), (1, .int v1), (2, .int 0)]) dX7_upTo_36 rfl (by decide) rfl ?_
    refine q_norm [1, 2, 3, 0] rfl ?_
    exact W7_upTo_37 C hr hno hl9 n n v1 0 64 S9 h
  · refine q_sipush (v := (-999)) C dX7_upTo_17 (by decide) ?_
    exact q_xiret C hr h (by decide) (by decide) dX7_upTo_20
/-! ClosedStreets.saves -/
abbrev rmX7_saves : Room := { frames := 7, cells := 2, slots := 12, locals := 280 }
def B7_saves_76 (n : Nat) (S : qSt) : Option (qOut × qSt) := some (.inl (-999), S)
set_option maxRecDepth 100000 in
set_option maxHeartbeats 4000000 in
theorem W7_saves_76 {out : qOut} {S2 : qSt} (C : qC g cX7_saves RX7 6 p s m meth c) (hr : meth.sig.returnType = (some .int)) (hno : ∀ x ∈ c.exceptionTable.toList, False) (hl9 : l.stackTraces = false) (n : Nat) (S : qSt) (h : B7_saves_76 n S = some (out, S2)) : qR g NL qT 6 p l e rmX7_saves s m args below meth c 2 12 (vx_MQ below (qXi g out S2) (qXC g out S2) args s 2 12 (qA g)) (qmem g S) 76 [] [] := by
  unfold B7_saves_76 at h
  refine q_sipush (v := (-999)) C dX7_saves_76 (by decide) ?_
  refine q_goto (tgt := 87) C dX7_saves_79 (by decide) ?_
  exact q_xiret C hr h (by decide) (by decide) dX7_saves_87
def F7_saves (n : Nat) (v1 : Int32) (v2 : Int32) (v3 : Int32) (S : qSt) : Option (qOut × qSt) := obx (F7_raise (F5_refusalOfPair 8 v1 v2 S) S) (fun r4 S3 => obx (F7_raise (F7_refusalOfLength v3 S3) S3) (fun r10 S9 => ob2 (F7_bestLengthIn n 8 S9) fun r14 S15 => ob1 (F5_copyFrom n 13 8 S15) fun S17 => ob1 (F5_replace n 13 v1 v2 v3 S17) fun S19 => ob2 (F7_bestLengthIn n 13 S19) fun r21 S22 => if r14 = (-999) then (B7_saves_76 n S22) else (if ¬ r21 = (-999) then (some (.inl (r14 - r21), S22)) else (B7_saves_76 n S22))) opx) opx
set_option maxRecDepth 100000 in
set_option maxHeartbeats 4000000 in
theorem kX7_saves {l : Launch} {g : qG} (hl9 : l.stackTraces = false) (n : Nat) (v1 : Int32) (v2 : Int32) (v3 : Int32) (S : qSt) {out : qOut} {S2 : qSt} (h : F7_saves n v1 v2 v3 S = some (out, S2)) : vx_Met l yX7_saves [.code yX7_saves cX7_saves 6 (some .int)] rmX7_saves (qPc g NL qT (qmem g S) [.ref (qa g 0), .int v1, .int v2, .int v3]) (qXi g out S2) (qXC g out S2) 2 12 (qA g) := by
  refine q_xmet (by decide) (Nat.le_of_ble_eq_true rfl) (fun p e s m args below meth c C hr hno => ?_)
  have C : qC g cX7_saves RX7 6 p s m meth c := C
  show qR g NL qT 6 p l e rmX7_saves s m args below meth c 0 0 (vx_MQ below (qXi g out S2) (qXC g out S2) args s 2 12 (qA g)) (qmem g S) 0 [(0, .ref (qa g 0)), (1, .int v1), (2, .int v2), (3, .int v3)] []
  unfold F7_saves at h
  refine q_aload_n C 0 dX7_saves_0 rfl rfl ?_
  refine s_getr (a := 8) C lf7_33 ltp_0 kd_0 rfl dX7_saves_1 ?_
  refine q_iload_n C 1 dX7_saves_4 rfl rfl ?_
  refine q_iload_n C 2 dX7_saves_5 rfl rfl ?_
  refine q_callVi0 C ltp_8 (qmem_o kd_8 (Nat.le_of_ble_eq_true rfl)) rfl rfl (kX5_refusalOfPair 8 (tyT_8) v1 v2 S) lm7_237 rfl (rest := []) rfl (Nat.le_of_ble_eq_true rfl) dX7_saves_6 ⟨rfl, rfl, Nat.le_of_ble_eq_true rfl, Nat.le_of_ble_eq_true rfl, Nat.le_of_ble_eq_true rfl, Nat.le_of_ble_eq_true rfl⟩ ?_
  obtain ⟨o2, S3, hc1, h5, h6⟩ := obx_e h
  refine q_xcallSv C (kX7_raise hl9 (F5_refusalOfPair 8 v1 v2 S) S hc1) lm7_188 rfl (rest := []) rfl (Nat.le_of_ble_eq_true rfl) dX7_saves_9 ⟨rfl, rfl, Nat.le_of_ble_eq_true rfl, Nat.le_of_ble_eq_true rfl, Nat.le_of_ble_eq_true rfl, Nat.le_of_ble_eq_true rfl⟩ hno ⟨by decide, by decide⟩ (fun k hk => opx_e (h6 k hk)) (fun r4 hr4 => ?_)
  have h := h5 r4 hr4
  refine q_widen (k := 1) (n := 6) (by decide) (by decide) ?_
  refine q_iload_n C 3 dX7_saves_12 rfl rfl ?_
  refine q_callSi0 C (kX7_refusalOfLength v3 S3) lm7_240 rfl (rest := []) rfl (Nat.le_of_ble_eq_true rfl) dX7_saves_13 ⟨rfl, rfl, Nat.le_of_ble_eq_true rfl, Nat.le_of_ble_eq_true rfl, Nat.le_of_ble_eq_true rfl, Nat.le_of_ble_eq_true rfl⟩ ?_
  obtain ⟨o8, S9, hc7, h11, h12⟩ := obx_e h
  refine q_xcallSv C (kX7_raise hl9 (F7_refusalOfLength v3 S3) S3 hc7) lm7_188 rfl (rest := []) rfl (Nat.le_of_ble_eq_true rfl) dX7_saves_16 ⟨rfl, rfl, Nat.le_of_ble_eq_true rfl, Nat.le_of_ble_eq_true rfl, Nat.le_of_ble_eq_true rfl, Nat.le_of_ble_eq_true rfl⟩ hno ⟨by decide, by decide⟩ (fun k hk => opx_e (h12 k hk)) (fun r10 hr10 => ?_)
  have h := h11 r10 hr10
  refine q_widen (k := 2) (n := 12) (by decide) (by decide) ?_
  refine q_aload_n C 0 dX7_saves_19 rfl rfl ?_
  refine q_aload_n C 0 dX7_saves_20 rfl rfl ?_
  refine s_getr (a := 8) C lf7_33 ltp_0 kd_0 rfl dX7_saves_21 ?_
  obtain ⟨r14, S15, hc13, h⟩ := ob2_e h
  refine q_callVi0 C ltp_0 (qmem_o kd_0 (Nat.le_of_ble_eq_true rfl)) rfl rfl (kX7_bestLengthIn n 8 (tyT_8) S9 hc13) lm7_119 rfl (rest := []) rfl (Nat.le_of_ble_eq_true rfl) dX7_saves_24 ⟨rfl, rfl, Nat.le_of_ble_eq_true rfl, Nat.le_of_ble_eq_true rfl, Nat.le_of_ble_eq_true rfl, Nat.le_of_ble_eq_true rfl⟩ ?_
  refine q_istore C (lv' := [(4, .int r14), (0, .ref (qa g 0)), (1, .int v1), (2, .int v2), (3, .int v3)]) dX7_saves_27 (by decide) rfl ?_
  refine q_norm [1, 2, 3, 4, 0] rfl ?_
  refine q_aload_n C 0 dX7_saves_29 rfl rfl ?_
  refine s_getr (a := 13) C lf7_37 ltp_0 kd_0 rfl dX7_saves_30 ?_
  refine q_aload_n C 0 dX7_saves_33 rfl rfl ?_
  refine s_getr (a := 8) C lf7_33 ltp_0 kd_0 rfl dX7_saves_34 ?_
  obtain ⟨S17, hc16, h⟩ := ob1_e h
  refine q_callVv0 C ltp_13 (qmem_o kd_13 (Nat.le_of_ble_eq_true rfl)) rfl rfl (kX5_copyFrom n 13 (tyT_13) 8 (tyT_8) S15 hc16) lm7_93 rfl (rest := []) rfl (Nat.le_of_ble_eq_true rfl) dX7_saves_37 ⟨rfl, rfl, Nat.le_of_ble_eq_true rfl, Nat.le_of_ble_eq_true rfl, Nat.le_of_ble_eq_true rfl, Nat.le_of_ble_eq_true rfl⟩ ?_
  refine q_aload_n C 0 dX7_saves_40 rfl rfl ?_
  refine s_getr (a := 13) C lf7_37 ltp_0 kd_0 rfl dX7_saves_41 ?_
  refine q_iload_n C 1 dX7_saves_44 rfl rfl ?_
  refine q_iload_n C 2 dX7_saves_45 rfl rfl ?_
  refine q_iload_n C 3 dX7_saves_46 rfl rfl ?_
  obtain ⟨S19, hc18, h⟩ := ob1_e h
  refine q_callVv0 C ltp_13 (qmem_o kd_13 (Nat.le_of_ble_eq_true rfl)) rfl rfl (kX5_replace n 13 (tyT_13) v1 v2 v3 S17 hc18) lm7_243 rfl (rest := []) rfl (Nat.le_of_ble_eq_true rfl) dX7_saves_47 ⟨rfl, rfl, Nat.le_of_ble_eq_true rfl, Nat.le_of_ble_eq_true rfl, Nat.le_of_ble_eq_true rfl, Nat.le_of_ble_eq_true rfl⟩ ?_
  refine q_aload_n C 0 dX7_saves_50 rfl rfl ?_
  refine q_aload_n C 0 dX7_saves_51 rfl rfl ?_
  refine s_getr (a := 13) C lf7_37 ltp_0 kd_0 rfl dX7_saves_52 ?_
  obtain ⟨r21, S22, hc20, h⟩ := ob2_e h
  refine q_callVi0 C ltp_0 (qmem_o kd_0 (Nat.le_of_ble_eq_true rfl)) rfl rfl (kX7_bestLengthIn n 13 (tyT_13) S19 hc20) lm7_119 rfl (rest := []) rfl (Nat.le_of_ble_eq_true rfl) dX7_saves_55 ⟨rfl, rfl, Nat.le_of_ble_eq_true rfl, Nat.le_of_ble_eq_true rfl, Nat.le_of_ble_eq_true rfl, Nat.le_of_ble_eq_true rfl⟩ ?_
  refine q_istore C (lv' := [(5, .int r21), (0, .ref (qa g 0)), (1, .int v1), (2, .int v2), (3, .int v3), (4, .int r14)]) dX7_saves_58 (by decide) rfl ?_
  refine q_norm [1, 2, 3, 4, 5, 0] rfl ?_
  refine q_iload C 4 dX7_saves_60 rfl ?_
  refine q_sipush (v := (-999)) C dX7_saves_62 (by decide) ?_
  refine q_icmp_eq (tgt := 76) C h dX7_saves_65 (by decide) (fun h => ?_) (fun h => ?_)
  · refine q_norm [] rfl ?_
    exact W7_saves_76 C hr hno hl9 n S22 h
  · refine q_iload C 5 dX7_saves_68 rfl ?_
    refine q_sipush (v := (-999)) C dX7_saves_70 (by decide) ?_
    refine q_icmp_ne (tgt := 82) C h dX7_saves_73 (by decide) (fun h => ?_) (fun h => ?_)
    · refine q_iload C 4 dX7_saves_82 rfl ?_
      refine q_iload C 5 dX7_saves_84 rfl ?_
      refine q_isub C dX7_saves_86 ?_
      exact q_xiret C hr h (by decide) (by decide) dX7_saves_87
    · refine q_norm [] rfl ?_
      exact W7_saves_76 C hr hno hl9 n S22 h
/-! ClosedStreets.ways -/
abbrev rmX7_ways : Room := { frames := 14, cells := 1, slots := 6, locals := 560 }
def B7_ways_11 (n : Nat) (S : qSt) : Option (qOut × qSt) := some (.inr 0, S)
set_option maxRecDepth 100000 in
set_option maxHeartbeats 4000000 in
theorem W7_ways_11 {out : qOut} {S2 : qSt} (C : qC g cX7_ways RX7 2 p s m meth c) (hr : meth.sig.returnType = (some .int)) (hno : ∀ x ∈ c.exceptionTable.toList, False) (hl9 : l.stackTraces = false) (n : Nat) (S : qSt) (h : B7_ways_11 n S = some (out, S2)) : qR g NL qT 2 p l e rmX7_ways s m args below meth c 0 0 (vx_MQ below (qXi g out S2) (qXC g out S2) args s 1 6 (qA g)) (qmem g S) 11 [] [] := by
  unfold B7_ways_11 at h
  exact q_throw (i := 20) (tx := "the length is not 0 to 999") C hl9 lx7_E0 rfl h hno (Nat.le_of_ble_eq_true rfl) (Nat.le_of_ble_eq_true rfl) ⟨by decide, by decide⟩ ⟨by decide, by decide⟩ dX7_ways_11 dX7_ways_14 dX7_ways_15 dX7_ways_17 dX7_ways_20
def F7_ways (n : Nat) (v1 : Int32) (S : qSt) : Option (qOut × qSt) := if v1 < 0 then (B7_ways_11 n S) else (if v1 ≤ 999 then (ob1 (F7_countWays n 8 10 (S 8 2) v1 (1 <<< ((S 8 2) &&& 31)) 1 0 S) fun r2 => some (.inl r2, S)) else (B7_ways_11 n S))
set_option maxRecDepth 100000 in
set_option maxHeartbeats 4000000 in
theorem kX7_ways {l : Launch} {g : qG} (hl9 : l.stackTraces = false) (n : Nat) (v1 : Int32) (S : qSt) {out : qOut} {S2 : qSt} (h : F7_ways n v1 S = some (out, S2)) : vx_Met l yX7_ways [.code yX7_ways cX7_ways 2 (some .int)] rmX7_ways (qPc g NL qT (qmem g S) [.ref (qa g 0), .int v1]) (qXi g out S2) (qXC g out S2) 1 6 (qA g) := by
  refine q_xmet (by decide) (Nat.le_of_ble_eq_true rfl) (fun p e s m args below meth c C hr hno => ?_)
  have C : qC g cX7_ways RX7 2 p s m meth c := C
  show qR g NL qT 2 p l e rmX7_ways s m args below meth c 0 0 (vx_MQ below (qXi g out S2) (qXC g out S2) args s 1 6 (qA g)) (qmem g S) 0 [(0, .ref (qa g 0)), (1, .int v1)] []
  unfold F7_ways at h
  refine q_iload_n C 1 dX7_ways_0 rfl rfl ?_
  refine q_if_lt (tgt := 11) C h dX7_ways_1 (by decide) (fun h => ?_) (fun h => ?_)
  · refine q_norm [] rfl ?_
    exact W7_ways_11 C hr hno hl9 n S h
  · refine q_iload_n C 1 dX7_ways_4 rfl rfl ?_
    refine q_sipush (v := 999) C dX7_ways_5 (by decide) ?_
    refine q_icmp_le (tgt := 21) C h dX7_ways_8 (by decide) (fun h => ?_) (fun h => ?_)
    · refine q_aload_n C 0 dX7_ways_21 rfl rfl ?_
      refine s_getr (a := 8) C lf7_33 ltp_0 kd_0 rfl dX7_ways_22 ?_
      refine q_aload_n C 0 dX7_ways_25 rfl rfl ?_
      refine s_getr (a := 8) C lf7_33 ltp_0 kd_0 rfl dX7_ways_26 ?_
      refine s_geti C lf7_113 ltp_8 kd_8 dX7_ways_29 ?_
      refine q_iload_n C 1 dX7_ways_32 rfl rfl ?_
      refine q_iconst (v := 1) C dX7_ways_33 (by decide) ?_
      refine q_aload_n C 0 dX7_ways_34 rfl rfl ?_
      refine s_getr (a := 8) C lf7_33 ltp_0 kd_0 rfl dX7_ways_35 ?_
      refine s_geti C lf7_113 ltp_8 kd_8 dX7_ways_38 ?_
      refine q_ishl C dX7_ways_41 ?_
      refine q_iconst (v := 1) C dX7_ways_42 (by decide) ?_
      refine q_iconst (v := 0) C dX7_ways_43 (by decide) ?_
      obtain ⟨r2, hc1, h⟩ := ob1_e h
      refine q_callSi0 C (kX7_countWays n 8 (tyT_8) 10 (S 8 2) v1 (1 <<< ((S 8 2) &&& 31)) 1 0 S hc1) lm7_249 rfl (rest := []) rfl (Nat.le_of_ble_eq_true rfl) dX7_ways_44 ⟨rfl, rfl, Nat.le_of_ble_eq_true rfl, Nat.le_of_ble_eq_true rfl, Nat.le_of_ble_eq_true rfl, Nat.le_of_ble_eq_true rfl⟩ ?_
      exact q_xiret C hr h (by decide) (by decide) dX7_ways_47
    · refine q_norm [] rfl ?_
      exact W7_ways_11 C hr hno hl9 n S h
/-! ClosedStreets.runScript -/
abbrev rmX7_runScript : Room := { frames := 6, cells := 1, slots := 6, locals := 240 }
def B7_runScript_10 (n : Nat) (S : qSt) : Option (qOut × qSt) := some (.inr 0, S)
set_option maxRecDepth 100000 in
set_option maxHeartbeats 4000000 in
theorem W7_runScript_10 {out : qOut} {S2 : qSt} (C : qC g cX7_runScript RX7 5 p s m meth c) (hr : meth.sig.returnType = (some .int)) (hno : ∀ x ∈ c.exceptionTable.toList, False) (hl9 : l.stackTraces = false) (n : Nat) (S : qSt) (h : B7_runScript_10 n S = some (out, S2)) : qR g NL qT 5 p l e rmX7_runScript s m args below meth c 0 0 (vx_MQ below (qXi g out S2) (qXC g out S2) args s 1 6 (qA g)) (qmem g S) 10 [] [] := by
  unfold B7_runScript_10 at h
  exact q_throwW (i := 21) (tx := "a script has 1 to 3 commands") C hl9 lx7_E0 rfl h hno (Nat.le_of_ble_eq_true rfl) (Nat.le_of_ble_eq_true rfl) ⟨by decide, by decide⟩ ⟨by decide, by decide⟩ dX7_runScript_10 dX7_runScript_13 dX7_runScript_14 dX7_runScript_17 dX7_runScript_20
def B7_runScript_37 (n : Nat) (S : qSt) : Option (qOut × qSt) := some (.inr 0, S)
set_option maxRecDepth 100000 in
set_option maxHeartbeats 4000000 in
theorem W7_runScript_37 {out : qOut} {S2 : qSt} (C : qC g cX7_runScript RX7 5 p s m meth c) (hr : meth.sig.returnType = (some .int)) (hno : ∀ x ∈ c.exceptionTable.toList, False) (hl9 : l.stackTraces = false) (n : Nat) (S : qSt) (h : B7_runScript_37 n S = some (out, S2)) : qR g NL qT 5 p l e rmX7_runScript s m args below meth c 0 0 (vx_MQ below (qXi g out S2) (qXC g out S2) args s 1 6 (qA g)) (qmem g S) 37 [] [] := by
  unfold B7_runScript_37 at h
  exact q_throwW (i := 22) (tx := "the script has too many digits") C hl9 lx7_E0 rfl h hno (Nat.le_of_ble_eq_true rfl) (Nat.le_of_ble_eq_true rfl) ⟨by decide, by decide⟩ ⟨by decide, by decide⟩ dX7_runScript_37 dX7_runScript_40 dX7_runScript_41 dX7_runScript_44 dX7_runScript_47
def B7_runScript_62 (n : Nat) : Nat → Int32 → Int64 → Int32 → qSt → Option (qOut × qSt)
  | 0, _, _, _, _ => none
  | n9 + 1, v1, w2, v4, S => if v1 ≤ v4 then (some (.inl (-999), S)) else (ob1 (F7_leadingGroups n w2 ((v1 - 1) - v4) S) fun r6 => ob2 (F7_scriptCommandOnTrial n ((r6 - r6 / 100000 * 100000).toInt32) S) fun r8 S9 => if ¬ r8 = 0 then ((B7_runScript_62 n n9) v1 w2 (v4 + 1) S9) else (some (.inl v4, S9)))
set_option maxRecDepth 100000 in
set_option maxHeartbeats 4000000 in
theorem W7_runScript_62 {out : qOut} {S2 : qSt} (C : qC g cX7_runScript RX7 5 p s m meth c) (hr : meth.sig.returnType = (some .int)) (hno : ∀ x ∈ c.exceptionTable.toList, False) (hl9 : l.stackTraces = false) (n : Nat) : ∀ (n9 : Nat) (v1 : Int32) (w2 : Int64) (v4 : Int32) (S : qSt), B7_runScript_62 n n9 v1 w2 v4 S = some (out, S2) → qR g NL qT 5 p l e rmX7_runScript s m args below meth c 0 0 (vx_MQ below (qXi g out S2) (qXC g out S2) args s 1 6 (qA g)) (qmem g S) 62 [(0, .ref (qa g 0)), (1, .int v1), (2, .long w2), (4, .int v4)] [] := by
  intro n9
  induction n9 with
  | zero =>
    intro v1 w2 v4 S h
    have h9 : (none : Option (qOut × qSt)) = some (out, S2) := h
    cases h9
  | succ n9 ih =>
    intro v1 w2 v4 S h
    rw [B7_runScript_62] at h
    refine q_iload C 3 dX7_runScript_62 rfl ?_
    refine q_iload_n C 1 dX7_runScript_64 rfl rfl ?_
    refine q_icmp_ge (tgt := 99) C h dX7_runScript_65 (by decide) (fun h => ?_) (fun h => ?_)
    · refine q_sipush (v := (-999)) C dX7_runScript_99 (by decide) ?_
      exact q_xiret C hr h (by decide) (by decide) dX7_runScript_102
    · refine q_aload_n C 0 dX7_runScript_68 rfl rfl ?_
      refine q_lload_n C 2 dX7_runScript_69 rfl rfl ?_
      refine q_iload_n C 1 dX7_runScript_70 rfl rfl ?_
      refine q_iconst (v := 1) C dX7_runScript_71 (by decide) ?_
      refine q_isub C dX7_runScript_72 ?_
      refine q_iload C 3 dX7_runScript_73 rfl ?_
      refine q_isub C dX7_runScript_75 ?_
      obtain ⟨r6, hc5, h⟩ := ob1_e h
      refine q_callSl0 C (kX7_leadingGroups n w2 ((v1 - 1) - v4) S hc5) lm7_258 rfl (rest := [.ref (qa g 0)]) rfl (Nat.le_of_ble_eq_true rfl) dX7_runScript_76 ⟨rfl, rfl, Nat.le_of_ble_eq_true rfl, Nat.le_of_ble_eq_true rfl, Nat.le_of_ble_eq_true rfl, Nat.le_of_ble_eq_true rfl⟩ ?_
      refine q_ldc2 (v := 100000) C lc7_264 dX7_runScript_79 ?_
      refine q_lrem C dX7_runScript_82 (by decide) ?_
      refine q_l2i C dX7_runScript_83 rfl ?_
      obtain ⟨r8, S9, hc7, h⟩ := ob2_e h
      refine q_callVi0 C ltp_0 (qmem_o kd_0 (Nat.le_of_ble_eq_true rfl)) rfl rfl (kX7_scriptCommandOnTrial n ((r6 - r6 / 100000 * 100000).toInt32) S hc7) lm7_266 rfl (rest := []) rfl (Nat.le_of_ble_eq_true rfl) dX7_runScript_84 ⟨rfl, rfl, Nat.le_of_ble_eq_true rfl, Nat.le_of_ble_eq_true rfl, Nat.le_of_ble_eq_true rfl, Nat.le_of_ble_eq_true rfl⟩ ?_
      refine q_if_ne (tgt := 93) C h dX7_runScript_87 (by decide) (fun h => ?_) (fun h => ?_)
      · refine q_iinc C 3 (v := v4 + 1) (lv' := [(4, .int (v4 + 1)), (0, .ref (qa g 0)), (1, .int v1), (2, .long w2)]) dX7_runScript_93 rfl rfl (by decide) rfl ?_
        refine q_norm [1, 2, 3, 0] rfl ?_
        refine q_goto (tgt := 62) C dX7_runScript_96 (by decide) ?_
        exact ih v1 w2 (v4 + 1) S9 h
      · refine q_iload C 3 dX7_runScript_90 rfl ?_
        exact q_xiret C hr h (by decide) (by decide) dX7_runScript_92
def F7_runScript (n : Nat) (v1 : Int32) (w2 : Int64) (S : qSt) : Option (qOut × qSt) := if v1 < 1 then (B7_runScript_10 n S) else (if v1 ≤ 3 then (if (lg_cmp w2 0) < 0 then (B7_runScript_37 n S) else (ob1 (F7_leadingGroups n w2 v1 S) fun r2 => if (lg_cmp r2 0) = 0 then (ob1 (F5_copyFrom n 13 8 S) fun S4 => B7_runScript_62 n n v1 w2 0 S4) else (B7_runScript_37 n S))) else (B7_runScript_10 n S))
set_option maxRecDepth 100000 in
set_option maxHeartbeats 4000000 in
theorem kX7_runScript {l : Launch} {g : qG} (hl9 : l.stackTraces = false) (n : Nat) (v1 : Int32) (w2 : Int64) (S : qSt) {out : qOut} {S2 : qSt} (h : F7_runScript n v1 w2 S = some (out, S2)) : vx_Met l yX7_runScript [.code yX7_runScript cX7_runScript 5 (some .int)] rmX7_runScript (qPc g NL qT (qmem g S) [.ref (qa g 0), .int v1, .long w2]) (qXi g out S2) (qXC g out S2) 1 6 (qA g) := by
  refine q_xmet (by decide) (Nat.le_of_ble_eq_true rfl) (fun p e s m args below meth c C hr hno => ?_)
  have C : qC g cX7_runScript RX7 5 p s m meth c := C
  show qR g NL qT 5 p l e rmX7_runScript s m args below meth c 0 0 (vx_MQ below (qXi g out S2) (qXC g out S2) args s 1 6 (qA g)) (qmem g S) 0 [(0, .ref (qa g 0)), (1, .int v1), (2, .long w2)] []
  unfold F7_runScript at h
  refine q_iload_n C 1 dX7_runScript_0 rfl rfl ?_
  refine q_iconst (v := 1) C dX7_runScript_1 (by decide) ?_
  refine q_icmp_lt (tgt := 10) C h dX7_runScript_2 (by decide) (fun h => ?_) (fun h => ?_)
  · refine q_norm [] rfl ?_
    exact W7_runScript_10 C hr hno hl9 n S h
  · refine q_iload_n C 1 dX7_runScript_5 rfl rfl ?_
    refine q_iconst (v := 3) C dX7_runScript_6 (by decide) ?_
    refine q_icmp_le (tgt := 21) C h dX7_runScript_7 (by decide) (fun h => ?_) (fun h => ?_)
    · refine q_lload_n C 2 dX7_runScript_21 rfl rfl ?_
      refine q_lconst (v := 0) C dX7_runScript_22 (by decide) ?_
      refine q_lcmp C dX7_runScript_23 ?_
      refine q_if_lt (tgt := 37) C h dX7_runScript_24 (by decide) (fun h => ?_) (fun h => ?_)
      · refine q_norm [] rfl ?_
        exact W7_runScript_37 C hr hno hl9 n S h
      · refine q_lload_n C 2 dX7_runScript_27 rfl rfl ?_
        refine q_iload_n C 1 dX7_runScript_28 rfl rfl ?_
        obtain ⟨r2, hc1, h⟩ := ob1_e h
        refine q_callSl0 C (kX7_leadingGroups n w2 v1 S hc1) lm7_258 rfl (rest := []) rfl (Nat.le_of_ble_eq_true rfl) dX7_runScript_29 ⟨rfl, rfl, Nat.le_of_ble_eq_true rfl, Nat.le_of_ble_eq_true rfl, Nat.le_of_ble_eq_true rfl, Nat.le_of_ble_eq_true rfl⟩ ?_
        refine q_lconst (v := 0) C dX7_runScript_32 (by decide) ?_
        refine q_lcmp C dX7_runScript_33 ?_
        refine q_if_eq (tgt := 48) C h dX7_runScript_34 (by decide) (fun h => ?_) (fun h => ?_)
        · refine q_aload_n C 0 dX7_runScript_48 rfl rfl ?_
          refine s_getr (a := 13) C lf7_37 ltp_0 kd_0 rfl dX7_runScript_49 ?_
          refine q_aload_n C 0 dX7_runScript_52 rfl rfl ?_
          refine s_getr (a := 8) C lf7_33 ltp_0 kd_0 rfl dX7_runScript_53 ?_
          obtain ⟨S4, hc3, h⟩ := ob1_e h
          refine q_callVv0 C ltp_13 (qmem_o kd_13 (Nat.le_of_ble_eq_true rfl)) rfl rfl (kX5_copyFrom n 13 (tyT_13) 8 (tyT_8) S hc3) lm7_93 rfl (rest := []) rfl (Nat.le_of_ble_eq_true rfl) dX7_runScript_56 ⟨rfl, rfl, Nat.le_of_ble_eq_true rfl, Nat.le_of_ble_eq_true rfl, Nat.le_of_ble_eq_true rfl, Nat.le_of_ble_eq_true rfl⟩ ?_
          refine q_iconst (v := 0) C dX7_runScript_59 (by decide) ?_
          refine q_istore C (lv' := [(4, .int 0), (0, .ref (qa g 0)), (1, .int v1), (2, .long w2)]) dX7_runScript_60 (by decide) rfl ?_
          refine q_norm [1, 2, 3, 0] rfl ?_
          exact W7_runScript_62 C hr hno hl9 n n v1 w2 0 S4 h
        · refine q_norm [] rfl ?_
          exact W7_runScript_37 C hr hno hl9 n S h
    · refine q_norm [] rfl ?_
      exact W7_runScript_10 C hr hno hl9 n S h
/-! ClosedStreets.simulate -/
abbrev rmX7_simulate : Room := { frames := 6, cells := 1, slots := 6, locals := 240 }
def B7_simulate_11 (n : Nat) (S : qSt) : Option (qOut × qSt) := some (.inr 0, S)
set_option maxRecDepth 100000 in
set_option maxHeartbeats 4000000 in
theorem W7_simulate_11 {out : qOut} {S2 : qSt} (C : qC g cX7_simulate RX7 10 p s m meth c) (hr : meth.sig.returnType = (some .int)) (hno : ∀ x ∈ c.exceptionTable.toList, False) (hl9 : l.stackTraces = false) (n : Nat) (S : qSt) (h : B7_simulate_11 n S = some (out, S2)) : qR g NL qT 10 p l e rmX7_simulate s m args below meth c 0 0 (vx_MQ below (qXi g out S2) (qXC g out S2) args s 1 6 (qA g)) (qmem g S) 11 [] [] := by
  unfold B7_simulate_11 at h
  exact q_throwW (i := 23) (tx := "the days are not 1 to 60") C hl9 lx7_E0 rfl h hno (Nat.le_of_ble_eq_true rfl) (Nat.le_of_ble_eq_true rfl) ⟨by decide, by decide⟩ ⟨by decide, by decide⟩ dX7_simulate_11 dX7_simulate_14 dX7_simulate_15 dX7_simulate_18 dX7_simulate_21
def B7_simulate_152 (n : Nat) (K31 : Int32 → Int64 → Int32 → Int32 → qSt → Option (qOut × qSt)) (v3 : Int32) (w4 : Int64) (v7 : Int32) (t0 : Int32) (t1 : Int32) (S : qSt) : Option (qOut × qSt) := K31 v3 w4 (t0 + t1) (v7 + 1) S
set_option maxRecDepth 100000 in
set_option maxHeartbeats 4000000 in
theorem W7_simulate_152 {out : qOut} {S2 : qSt} (C : qC g cX7_simulate RX7 10 p s m meth c) (hr : meth.sig.returnType = (some .int)) (hno : ∀ x ∈ c.exceptionTable.toList, False) (hl9 : l.stackTraces = false) (n : Nat) (K31 : Int32 → Int64 → Int32 → Int32 → qSt → Option (qOut × qSt)) (hK31 : ∀ (v3 : Int32) (w4 : Int64) (v6 : Int32) (v7 : Int32) (S : qSt), K31 v3 w4 v6 v7 S = some (out, S2) → qR g NL qT 10 p l e rmX7_simulate s m args below meth c 0 0 (vx_MQ below (qXi g out S2) (qXC g out S2) args s 1 6 (qA g)) (qmem g S) 31 [(0, .ref (qa g 0)), (3, .int v3), (4, .long w4), (6, .int v6), (7, .int v7)] []) (v3 : Int32) (w4 : Int64) (v7 : Int32) (t0 : Int32) (t1 : Int32) (S : qSt) (h : B7_simulate_152 n K31 v3 w4 v7 t0 t1 S = some (out, S2)) : qR g NL qT 10 p l e rmX7_simulate s m args below meth c 0 0 (vx_MQ below (qXi g out S2) (qXC g out S2) args s 1 6 (qA g)) (qmem g S) 152 [(0, .ref (qa g 0)), (3, .int v3), (4, .long w4), (7, .int v7)] [.int t1, .int t0] := by
  unfold B7_simulate_152 at h
  refine q_iadd C dX7_simulate_152 ?_
  refine q_istore C (lv' := [(6, .int (t0 + t1)), (0, .ref (qa g 0)), (3, .int v3), (4, .long w4), (7, .int v7)]) dX7_simulate_153 (by decide) rfl ?_
  refine q_norm [1, 2, 3, 0, 4] rfl ?_
  refine q_iinc C 4 (v := v7 + 1) (lv' := [(7, .int (v7 + 1)), (0, .ref (qa g 0)), (3, .int v3), (4, .long w4), (6, .int (t0 + t1))]) dX7_simulate_155 rfl rfl (by decide) rfl ?_
  refine q_norm [1, 2, 3, 4, 0] rfl ?_
  refine q_goto (tgt := 31) C dX7_simulate_158 (by decide) ?_
  exact hK31 v3 w4 (t0 + t1) (v7 + 1) S h
def B7_simulate_124 (n : Nat) (K31 : Int32 → Int64 → Int32 → Int32 → qSt → Option (qOut × qSt)) (v3 : Int32) (w4 : Int64) (v6 : Int32) (v7 : Int32) (S : qSt) : Option (qOut × qSt) := ob2 (F7_bestLengthIn n 13 S) fun r4 S5 => if ¬ r4 = (-999) then (B7_simulate_152 n K31 v3 w4 v7 v6 r4 S5) else (B7_simulate_152 n K31 v3 w4 v7 v6 100000 S5)
set_option maxRecDepth 100000 in
set_option maxHeartbeats 4000000 in
theorem W7_simulate_124 {out : qOut} {S2 : qSt} (C : qC g cX7_simulate RX7 10 p s m meth c) (hr : meth.sig.returnType = (some .int)) (hno : ∀ x ∈ c.exceptionTable.toList, False) (hl9 : l.stackTraces = false) (n : Nat) (K31 : Int32 → Int64 → Int32 → Int32 → qSt → Option (qOut × qSt)) (hK31 : ∀ (v3 : Int32) (w4 : Int64) (v6 : Int32) (v7 : Int32) (S : qSt), K31 v3 w4 v6 v7 S = some (out, S2) → qR g NL qT 10 p l e rmX7_simulate s m args below meth c 0 0 (vx_MQ below (qXi g out S2) (qXC g out S2) args s 1 6 (qA g)) (qmem g S) 31 [(0, .ref (qa g 0)), (3, .int v3), (4, .long w4), (6, .int v6), (7, .int v7)] []) (v3 : Int32) (w4 : Int64) (v6 : Int32) (v7 : Int32) (S : qSt) (h : B7_simulate_124 n K31 v3 w4 v6 v7 S = some (out, S2)) : qR g NL qT 10 p l e rmX7_simulate s m args below meth c 0 0 (vx_MQ below (qXi g out S2) (qXC g out S2) args s 1 6 (qA g)) (qmem g S) 124 [(0, .ref (qa g 0)), (3, .int v3), (4, .long w4), (6, .int v6), (7, .int v7)] [] := by
  unfold B7_simulate_124 at h
  refine q_aload_n C 0 dX7_simulate_124 rfl rfl ?_
  refine q_aload_n C 0 dX7_simulate_125 rfl rfl ?_
  refine s_getr (a := 13) C lf7_37 ltp_0 kd_0 rfl dX7_simulate_126 ?_
  obtain ⟨r4, S5, hc3, h⟩ := ob2_e h
  refine q_callVi0 C ltp_0 (qmem_o kd_0 (Nat.le_of_ble_eq_true rfl)) rfl rfl (kX7_bestLengthIn n 13 (tyT_13) S hc3) lm7_119 rfl (rest := []) rfl (Nat.le_of_ble_eq_true rfl) dX7_simulate_129 ⟨rfl, rfl, Nat.le_of_ble_eq_true rfl, Nat.le_of_ble_eq_true rfl, Nat.le_of_ble_eq_true rfl, Nat.le_of_ble_eq_true rfl⟩ ?_
  refine q_istore C (lv' := [(8, .int r4), (0, .ref (qa g 0)), (3, .int v3), (4, .long w4), (6, .int v6), (7, .int v7)]) dX7_simulate_132 (by decide) rfl ?_
  refine q_norm [1, 2, 3, 4, 5, 0] rfl ?_
  refine q_iload C 3 dX7_simulate_134 rfl ?_
  refine q_iload C 5 dX7_simulate_136 rfl ?_
  refine q_sipush (v := (-999)) C dX7_simulate_138 (by decide) ?_
  refine q_icmp_ne (tgt := 150) C h dX7_simulate_141 (by decide) (fun h => ?_) (fun h => ?_)
  · refine q_iload C 5 dX7_simulate_150 rfl ?_
    refine q_norm [0, 1, 2, 4] rfl ?_
    exact W7_simulate_152 C hr hno hl9 n K31 hK31 v3 w4 v7 v6 r4 S5 h
  · refine q_ldc_w (v := 100000) C lc7_276 dX7_simulate_144 ?_
    refine q_goto (tgt := 152) C dX7_simulate_147 (by decide) ?_
    refine q_norm [0, 1, 2, 4] rfl ?_
    exact W7_simulate_152 C hr hno hl9 n K31 hK31 v3 w4 v7 v6 100000 S5 h
def B7_simulate_118 (n : Nat) (K31 : Int32 → Int64 → Int32 → Int32 → qSt → Option (qOut × qSt)) (K51 : Int32 → Int64 → Int32 → Int32 → Int32 → qSt → Option (qOut × qSt)) (v3 : Int32) (w4 : Int64) (v6 : Int32) (v7 : Int32) (v8 : Int32) (S : qSt) : Option (qOut × qSt) := K51 v3 w4 v6 v7 (v8 + 1) S
set_option maxRecDepth 100000 in
set_option maxHeartbeats 4000000 in
theorem W7_simulate_118 {out : qOut} {S2 : qSt} (C : qC g cX7_simulate RX7 10 p s m meth c) (hr : meth.sig.returnType = (some .int)) (hno : ∀ x ∈ c.exceptionTable.toList, False) (hl9 : l.stackTraces = false) (n : Nat) (K31 : Int32 → Int64 → Int32 → Int32 → qSt → Option (qOut × qSt)) (hK31 : ∀ (v3 : Int32) (w4 : Int64) (v6 : Int32) (v7 : Int32) (S : qSt), K31 v3 w4 v6 v7 S = some (out, S2) → qR g NL qT 10 p l e rmX7_simulate s m args below meth c 0 0 (vx_MQ below (qXi g out S2) (qXC g out S2) args s 1 6 (qA g)) (qmem g S) 31 [(0, .ref (qa g 0)), (3, .int v3), (4, .long w4), (6, .int v6), (7, .int v7)] []) (K51 : Int32 → Int64 → Int32 → Int32 → Int32 → qSt → Option (qOut × qSt)) (hK51 : ∀ (v3 : Int32) (w4 : Int64) (v6 : Int32) (v7 : Int32) (v8 : Int32) (S : qSt), K51 v3 w4 v6 v7 v8 S = some (out, S2) → qR g NL qT 10 p l e rmX7_simulate s m args below meth c 0 0 (vx_MQ below (qXi g out S2) (qXC g out S2) args s 1 6 (qA g)) (qmem g S) 51 [(0, .ref (qa g 0)), (3, .int v3), (4, .long w4), (6, .int v6), (7, .int v7), (8, .int v8)] []) (v3 : Int32) (w4 : Int64) (v6 : Int32) (v7 : Int32) (v8 : Int32) (S : qSt) (h : B7_simulate_118 n K31 K51 v3 w4 v6 v7 v8 S = some (out, S2)) : qR g NL qT 10 p l e rmX7_simulate s m args below meth c 0 0 (vx_MQ below (qXi g out S2) (qXC g out S2) args s 1 6 (qA g)) (qmem g S) 118 [(0, .ref (qa g 0)), (3, .int v3), (4, .long w4), (6, .int v6), (7, .int v7), (8, .int v8)] [] := by
  unfold B7_simulate_118 at h
  refine q_iinc C 5 (v := v8 + 1) (lv' := [(8, .int (v8 + 1)), (0, .ref (qa g 0)), (3, .int v3), (4, .long w4), (6, .int v6), (7, .int v7)]) dX7_simulate_118 rfl rfl (by decide) rfl ?_
  refine q_norm [1, 2, 3, 4, 5, 0] rfl ?_
  refine q_goto (tgt := 51) C dX7_simulate_121 (by decide) ?_
  exact hK51 v3 w4 v6 v7 (v8 + 1) S h
def B7_simulate_117 (n : Nat) (K31 : Int32 → Int64 → Int32 → Int32 → qSt → Option (qOut × qSt)) (K51 : Int32 → Int64 → Int32 → Int32 → Int32 → qSt → Option (qOut × qSt)) (v3 : Int32) (w4 : Int64) (v6 : Int32) (v7 : Int32) (v8 : Int32) (t1 : Int32) (t2 : Int32) (S : qSt) : Option (qOut × qSt) := if qin t1 21 = true then obs (qup S 17 t1.toNatClampNeg (t2 &&& 1)) fun S10 => B7_simulate_118 n K31 K51 v3 w4 v6 v7 v8 S10 else none
set_option maxRecDepth 100000 in
set_option maxHeartbeats 4000000 in
theorem W7_simulate_117 {out : qOut} {S2 : qSt} (C : qC g cX7_simulate RX7 10 p s m meth c) (hr : meth.sig.returnType = (some .int)) (hno : ∀ x ∈ c.exceptionTable.toList, False) (hl9 : l.stackTraces = false) (n : Nat) (K31 : Int32 → Int64 → Int32 → Int32 → qSt → Option (qOut × qSt)) (hK31 : ∀ (v3 : Int32) (w4 : Int64) (v6 : Int32) (v7 : Int32) (S : qSt), K31 v3 w4 v6 v7 S = some (out, S2) → qR g NL qT 10 p l e rmX7_simulate s m args below meth c 0 0 (vx_MQ below (qXi g out S2) (qXC g out S2) args s 1 6 (qA g)) (qmem g S) 31 [(0, .ref (qa g 0)), (3, .int v3), (4, .long w4), (6, .int v6), (7, .int v7)] []) (K51 : Int32 → Int64 → Int32 → Int32 → Int32 → qSt → Option (qOut × qSt)) (hK51 : ∀ (v3 : Int32) (w4 : Int64) (v6 : Int32) (v7 : Int32) (v8 : Int32) (S : qSt), K51 v3 w4 v6 v7 v8 S = some (out, S2) → qR g NL qT 10 p l e rmX7_simulate s m args below meth c 0 0 (vx_MQ below (qXi g out S2) (qXC g out S2) args s 1 6 (qA g)) (qmem g S) 51 [(0, .ref (qa g 0)), (3, .int v3), (4, .long w4), (6, .int v6), (7, .int v7), (8, .int v8)] []) (v3 : Int32) (w4 : Int64) (v6 : Int32) (v7 : Int32) (v8 : Int32) (t1 : Int32) (t2 : Int32) (S : qSt) (h : B7_simulate_117 n K31 K51 v3 w4 v6 v7 v8 t1 t2 S = some (out, S2)) : qR g NL qT 10 p l e rmX7_simulate s m args below meth c 0 0 (vx_MQ below (qXi g out S2) (qXC g out S2) args s 1 6 (qA g)) (qmem g S) 117 [(0, .ref (qa g 0)), (3, .int v3), (4, .long w4), (6, .int v6), (7, .int v7), (8, .int v8)] [.int t2, .int t1, .ref (qa g 17)] := by
  unfold B7_simulate_117 at h
  obtain ⟨hb9, h⟩ := q_if h
  obtain ⟨S10, hS10, h⟩ := obs_e h
  refine s_zast C ltp_17 kd_17 hb9 dX7_simulate_117 ?_
  rw [← hS10]
  exact W7_simulate_118 C hr hno hl9 n K31 hK31 K51 hK51 v3 w4 v6 v7 v8 S10 h
def B7_simulate_51 (n : Nat) (K31 : Int32 → Int64 → Int32 → Int32 → qSt → Option (qOut × qSt)) : Nat → Int32 → Int64 → Int32 → Int32 → Int32 → qSt → Option (qOut × qSt)
  | 0, _, _, _, _, _, _ => none
  | n9 + 1, v3, w4, v6, v7, v8, S => if (S 8 1) ≤ v8 then (B7_simulate_124 n K31 v3 w4 v6 v7 S) else (if qin v8 21 = true then if ¬ (S 12 v8.toNatClampNeg) = 0 then (B7_simulate_118 n K31 (B7_simulate_51 n K31 n9) v3 w4 v6 v7 v8 S) else (obs ((w4 * 6364136223846793005) + 1442695040888963407) fun x7 => obs (((x7.toUInt64 >>> ((33 : Int32).toInt64.toUInt64 &&& Int64.toUInt64 63)).toInt64).toInt32) fun x8 => if ¬ (x8 - x8 / 4 * 4) = 0 then (B7_simulate_117 n K31 (B7_simulate_51 n K31 n9) v3 x7 v6 v7 v8 v8 0 S) else (B7_simulate_117 n K31 (B7_simulate_51 n K31 n9) v3 x7 v6 v7 v8 v8 1 S)) else none)
set_option maxRecDepth 100000 in
set_option maxHeartbeats 4000000 in
theorem W7_simulate_51 {out : qOut} {S2 : qSt} (C : qC g cX7_simulate RX7 10 p s m meth c) (hr : meth.sig.returnType = (some .int)) (hno : ∀ x ∈ c.exceptionTable.toList, False) (hl9 : l.stackTraces = false) (n : Nat) (K31 : Int32 → Int64 → Int32 → Int32 → qSt → Option (qOut × qSt)) (hK31 : ∀ (v3 : Int32) (w4 : Int64) (v6 : Int32) (v7 : Int32) (S : qSt), K31 v3 w4 v6 v7 S = some (out, S2) → qR g NL qT 10 p l e rmX7_simulate s m args below meth c 0 0 (vx_MQ below (qXi g out S2) (qXC g out S2) args s 1 6 (qA g)) (qmem g S) 31 [(0, .ref (qa g 0)), (3, .int v3), (4, .long w4), (6, .int v6), (7, .int v7)] []) : ∀ (n9 : Nat) (v3 : Int32) (w4 : Int64) (v6 : Int32) (v7 : Int32) (v8 : Int32) (S : qSt), B7_simulate_51 n K31 n9 v3 w4 v6 v7 v8 S = some (out, S2) → qR g NL qT 10 p l e rmX7_simulate s m args below meth c 0 0 (vx_MQ below (qXi g out S2) (qXC g out S2) args s 1 6 (qA g)) (qmem g S) 51 [(0, .ref (qa g 0)), (3, .int v3), (4, .long w4), (6, .int v6), (7, .int v7), (8, .int v8)] [] := by
  intro n9
  induction n9 with
  | zero =>
    intro v3 w4 v6 v7 v8 S h
    have h9 : (none : Option (qOut × qSt)) = some (out, S2) := h
    cases h9
  | succ n9 ih =>
    intro v3 w4 v6 v7 v8 S h
    rw [B7_simulate_51] at h
    refine q_iload C 5 dX7_simulate_51 rfl ?_
    refine q_aload_n C 0 dX7_simulate_53 rfl rfl ?_
    refine s_getr (a := 8) C lf7_33 ltp_0 kd_0 rfl dX7_simulate_54 ?_
    refine s_geti C lf7_103 ltp_8 kd_8 dX7_simulate_57 ?_
    refine q_icmp_ge (tgt := 124) C h dX7_simulate_60 (by decide) (fun h => ?_) (fun h => ?_)
    · refine q_norm [0, 1, 2, 3, 4] rfl ?_
      exact W7_simulate_124 C hr hno hl9 n K31 hK31 v3 w4 v6 v7 S h
    · refine q_aload_n C 0 dX7_simulate_63 rfl rfl ?_
      refine s_getr (a := 8) C lf7_33 ltp_0 kd_0 rfl dX7_simulate_64 ?_
      refine s_getr (a := 12) C lf7_146 ltp_8 kd_8 rfl dX7_simulate_67 ?_
      refine q_iload C 5 dX7_simulate_70 rfl ?_
      obtain ⟨hb6, h⟩ := q_if h
      refine s_zald C ltp_12 kd_12 hb6 dX7_simulate_72 ?_
      refine q_if_ne (tgt := 118) C h dX7_simulate_73 (by decide) (fun h => ?_) (fun h => ?_)
      · exact W7_simulate_118 C hr hno hl9 n K31 hK31 (B7_simulate_51 n K31 n9) ih v3 w4 v6 v7 v8 S h
      · refine q_lload C 2 dX7_simulate_76 rfl ?_
        refine q_ldc2 (v := 6364136223846793005) C lc7_272 dX7_simulate_78 ?_
        refine q_lmul C dX7_simulate_81 ?_
        refine q_ldc2 (v := 1442695040888963407) C lc7_274 dX7_simulate_82 ?_
        refine q_ladd C dX7_simulate_85 ?_
        obtain ⟨x7, hx7, h⟩ := obs_e h
        rw [← hx7]
        refine q_lstore C (lv' := [(4, .long x7), (0, .ref (qa g 0)), (3, .int v3), (6, .int v6), (7, .int v7), (8, .int v8)]) dX7_simulate_86 (by decide) rfl ?_
        refine q_norm [1, 2, 0, 3, 4, 5] rfl ?_
        refine q_lload C 2 dX7_simulate_88 rfl ?_
        refine q_bipush (v := 33) C dX7_simulate_90 (by decide) ?_
        refine q_lushr C dX7_simulate_92 rfl ?_
        refine q_l2i C dX7_simulate_93 rfl ?_
        obtain ⟨x8, hx8, h⟩ := obs_e h
        rw [← hx8]
        refine q_istore C (lv' := [(9, .int x8), (0, .ref (qa g 0)), (3, .int v3), (4, .long x7), (6, .int v6), (7, .int v7), (8, .int v8)]) dX7_simulate_94 (by decide) rfl ?_
        refine q_norm [1, 2, 3, 4, 5, 6, 0] rfl ?_
        refine q_aload_n C 0 dX7_simulate_96 rfl rfl ?_
        refine s_getr (a := 13) C lf7_37 ltp_0 kd_0 rfl dX7_simulate_97 ?_
        refine s_getr (a := 17) C lf7_146 ltp_13 kd_13 rfl dX7_simulate_100 ?_
        refine q_iload C 5 dX7_simulate_103 rfl ?_
        refine q_iload C 6 dX7_simulate_105 rfl ?_
        refine q_iconst (v := 4) C dX7_simulate_107 (by decide) ?_
        refine q_irem C dX7_simulate_108 (by decide) ?_
        refine q_if_ne (tgt := 116) C h dX7_simulate_109 (by decide) (fun h => ?_) (fun h => ?_)
        · refine q_iconst (v := 0) C dX7_simulate_116 (by decide) ?_
          refine q_norm [0, 1, 2, 3, 4, 5] rfl ?_
          exact W7_simulate_117 C hr hno hl9 n K31 hK31 (B7_simulate_51 n K31 n9) ih v3 x7 v6 v7 v8 v8 0 S h
        · refine q_iconst (v := 1) C dX7_simulate_112 (by decide) ?_
          refine q_goto (tgt := 117) C dX7_simulate_113 (by decide) ?_
          refine q_norm [0, 1, 2, 3, 4, 5] rfl ?_
          exact W7_simulate_117 C hr hno hl9 n K31 hK31 (B7_simulate_51 n K31 n9) ih v3 x7 v6 v7 v8 v8 1 S h
def B7_simulate_31 (n : Nat) : Nat → Int32 → Int64 → Int32 → Int32 → qSt → Option (qOut × qSt)
  | 0, _, _, _, _, _ => none
  | n9 + 1, v3, w4, v6, v7, S => if v3 ≤ v7 then (some (.inl v6, S)) else (ob1 (F5_copyFrom n 13 8 S) fun S2 => B7_simulate_51 n (B7_simulate_31 n n9) n v3 w4 v6 v7 0 S2)
set_option maxRecDepth 100000 in
set_option maxHeartbeats 4000000 in
theorem W7_simulate_31 {out : qOut} {S2 : qSt} (C : qC g cX7_simulate RX7 10 p s m meth c) (hr : meth.sig.returnType = (some .int)) (hno : ∀ x ∈ c.exceptionTable.toList, False) (hl9 : l.stackTraces = false) (n : Nat) : ∀ (n9 : Nat) (v3 : Int32) (w4 : Int64) (v6 : Int32) (v7 : Int32) (S : qSt), B7_simulate_31 n n9 v3 w4 v6 v7 S = some (out, S2) → qR g NL qT 10 p l e rmX7_simulate s m args below meth c 0 0 (vx_MQ below (qXi g out S2) (qXC g out S2) args s 1 6 (qA g)) (qmem g S) 31 [(0, .ref (qa g 0)), (3, .int v3), (4, .long w4), (6, .int v6), (7, .int v7)] [] := by
  intro n9
  induction n9 with
  | zero =>
    intro v3 w4 v6 v7 S h
    have h9 : (none : Option (qOut × qSt)) = some (out, S2) := h
    cases h9
  | succ n9 ih =>
    intro v3 w4 v6 v7 S h
    rw [B7_simulate_31] at h
    refine q_iload C 4 dX7_simulate_31 rfl ?_
    refine q_iload_n C 1 dX7_simulate_33 rfl rfl ?_
    refine q_icmp_ge (tgt := 161) C h dX7_simulate_34 (by decide) (fun h => ?_) (fun h => ?_)
    · refine q_iload C 3 dX7_simulate_161 rfl ?_
      exact q_xiret C hr h (by decide) (by decide) dX7_simulate_163
    · refine q_aload_n C 0 dX7_simulate_37 rfl rfl ?_
      refine s_getr (a := 13) C lf7_37 ltp_0 kd_0 rfl dX7_simulate_38 ?_
      refine q_aload_n C 0 dX7_simulate_41 rfl rfl ?_
      refine s_getr (a := 8) C lf7_33 ltp_0 kd_0 rfl dX7_simulate_42 ?_
      obtain ⟨S2, hc1, h⟩ := ob1_e h
      refine q_callVv0 C ltp_13 (qmem_o kd_13 (Nat.le_of_ble_eq_true rfl)) rfl rfl (kX5_copyFrom n 13 (tyT_13) 8 (tyT_8) S hc1) lm7_93 rfl (rest := []) rfl (Nat.le_of_ble_eq_true rfl) dX7_simulate_45 ⟨rfl, rfl, Nat.le_of_ble_eq_true rfl, Nat.le_of_ble_eq_true rfl, Nat.le_of_ble_eq_true rfl, Nat.le_of_ble_eq_true rfl⟩ ?_
      refine q_iconst (v := 0) C dX7_simulate_48 (by decide) ?_
      refine q_istore C (lv' := [(8, .int 0), (0, .ref (qa g 0)), (3, .int v3), (4, .long w4), (6, .int v6), (7, .int v7)]) dX7_simulate_49 (by decide) rfl ?_
      refine q_norm [1, 2, 3, 4, 5, 0] rfl ?_
      exact W7_simulate_51 C hr hno hl9 n (B7_simulate_31 n n9) ih n v3 w4 v6 v7 0 S2 h
def F7_simulate (n : Nat) (w1 : Int64) (v3 : Int32) (S : qSt) : Option (qOut × qSt) := if v3 < 1 then (B7_simulate_11 n S) else (if v3 ≤ 60 then (B7_simulate_31 n n v3 w1 0 0 S) else (B7_simulate_11 n S))
set_option maxRecDepth 100000 in
set_option maxHeartbeats 4000000 in
theorem kX7_simulate {l : Launch} {g : qG} (hl9 : l.stackTraces = false) (n : Nat) (w1 : Int64) (v3 : Int32) (S : qSt) {out : qOut} {S2 : qSt} (h : F7_simulate n w1 v3 S = some (out, S2)) : vx_Met l yX7_simulate [.code yX7_simulate cX7_simulate 10 (some .int)] rmX7_simulate (qPc g NL qT (qmem g S) [.ref (qa g 0), .long w1, .int v3]) (qXi g out S2) (qXC g out S2) 1 6 (qA g) := by
  refine q_xmet (by decide) (Nat.le_of_ble_eq_true rfl) (fun p e s m args below meth c C hr hno => ?_)
  have C : qC g cX7_simulate RX7 10 p s m meth c := C
  show qR g NL qT 10 p l e rmX7_simulate s m args below meth c 0 0 (vx_MQ below (qXi g out S2) (qXC g out S2) args s 1 6 (qA g)) (qmem g S) 0 [(0, .ref (qa g 0)), (1, .long w1), (3, .int v3)] []
  unfold F7_simulate at h
  refine q_iload_n C 2 dX7_simulate_0 rfl rfl ?_
  refine q_iconst (v := 1) C dX7_simulate_1 (by decide) ?_
  refine q_icmp_lt (tgt := 11) C h dX7_simulate_2 (by decide) (fun h => ?_) (fun h => ?_)
  · refine q_norm [] rfl ?_
    exact W7_simulate_11 C hr hno hl9 n S h
  · refine q_iload_n C 2 dX7_simulate_5 rfl rfl ?_
    refine q_bipush (v := 60) C dX7_simulate_6 (by decide) ?_
    refine q_icmp_le (tgt := 22) C h dX7_simulate_8 (by decide) (fun h => ?_) (fun h => ?_)
    · refine q_lload_n C 1 dX7_simulate_22 rfl rfl ?_
      refine q_lstore C (lv' := [(4, .long w1), (0, .ref (qa g 0)), (1, .long w1), (3, .int v3)]) dX7_simulate_23 (by decide) rfl ?_
      refine q_norm [1, 2, 3, 0] rfl ?_
      refine q_iconst (v := 0) C dX7_simulate_25 (by decide) ?_
      refine q_istore C (lv' := [(6, .int 0), (0, .ref (qa g 0)), (1, .long w1), (3, .int v3), (4, .long w1)]) dX7_simulate_26 (by decide) rfl ?_
      refine q_norm [1, 2, 3, 4, 0] rfl ?_
      refine q_iconst (v := 0) C dX7_simulate_28 (by decide) ?_
      refine q_istore C (lv' := [(7, .int 0), (0, .ref (qa g 0)), (1, .long w1), (3, .int v3), (4, .long w1), (6, .int 0)]) dX7_simulate_29 (by decide) rfl ?_
      refine q_norm [1, 2, 3, 4, 5, 0] rfl ?_
      refine q_norm [0, 2, 3, 4, 5] rfl ?_
      exact W7_simulate_31 C hr hno hl9 n n v3 w1 0 0 S h
    · refine q_norm [] rfl ?_
      exact W7_simulate_11 C hr hno hl9 n S h
/-! ClosedStreets.requireSlot -/
abbrev rmX7_requireSlot : Room := { frames := 6, cells := 1, slots := 6, locals := 240 }
def B7_requireSlot_9 (S : qSt) : Option (qOut × qSt) := some (.inr 2, S)
set_option maxRecDepth 100000 in
set_option maxHeartbeats 4000000 in
theorem W7_requireSlot_9 {out : qOut} {S2 : qSt} (C : qC g cX7_requireSlot RX7 1 p s m meth c) (hr : meth.sig.returnType = none) (hno : ∀ x ∈ c.exceptionTable.toList, False) (hl9 : l.stackTraces = false) (S : qSt) (h : B7_requireSlot_9 S = some (out, S2)) : qR g NL qT 1 p l e rmX7_requireSlot s m args below meth c 0 0 (vx_MQ below (qXv g out S2) (qXC g out S2) args s 1 6 (qA g)) (qmem g S) 9 [] [] := by
  unfold B7_requireSlot_9 at h
  exact q_throwW (i := 24) (tx := "no such save slot") C hl9 lx7_E2 rfl h hno (Nat.le_of_ble_eq_true rfl) (Nat.le_of_ble_eq_true rfl) ⟨by decide, by decide⟩ ⟨by decide, by decide⟩ dX7_requireSlot_9 dX7_requireSlot_12 dX7_requireSlot_13 dX7_requireSlot_16 dX7_requireSlot_19
def F7_requireSlot (v0 : Int32) (S : qSt) : Option (qOut × qSt) := if v0 < 0 then (B7_requireSlot_9 S) else (if v0 < 2 then (some (.inl 0, S)) else (B7_requireSlot_9 S))
set_option maxRecDepth 100000 in
set_option maxHeartbeats 4000000 in
theorem kX7_requireSlot {l : Launch} {g : qG} (hl9 : l.stackTraces = false) (v0 : Int32) (S : qSt) {out : qOut} {S2 : qSt} (h : F7_requireSlot v0 S = some (out, S2)) : vx_Met l yX7_requireSlot [.code yX7_requireSlot cX7_requireSlot 1 none] rmX7_requireSlot (qPc g NL qT (qmem g S) [.int v0]) (qXv g out S2) (qXC g out S2) 1 6 (qA g) := by
  refine q_xmet (by decide) (Nat.le_of_ble_eq_true rfl) (fun p e s m args below meth c C hr hno => ?_)
  have C : qC g cX7_requireSlot RX7 1 p s m meth c := C
  show qR g NL qT 1 p l e rmX7_requireSlot s m args below meth c 0 0 (vx_MQ below (qXv g out S2) (qXC g out S2) args s 1 6 (qA g)) (qmem g S) 0 [(0, .int v0)] []
  unfold F7_requireSlot at h
  refine q_iload_n C 0 dX7_requireSlot_0 rfl rfl ?_
  refine q_if_lt (tgt := 9) C h dX7_requireSlot_1 (by decide) (fun h => ?_) (fun h => ?_)
  · refine q_norm [] rfl ?_
    exact W7_requireSlot_9 C hr hno hl9 S h
  · refine q_iload_n C 0 dX7_requireSlot_4 rfl rfl ?_
    refine q_iconst (v := 2) C dX7_requireSlot_5 (by decide) ?_
    refine q_icmp_lt (tgt := 20) C h dX7_requireSlot_6 (by decide) (fun h => ?_) (fun h => ?_)
    · exact q_xvret C hr h (by decide) (by decide) dX7_requireSlot_20
    · refine q_norm [] rfl ?_
      exact W7_requireSlot_9 C hr hno hl9 S h
/-! ClosedStreets.save -/
abbrev rmX7_save : Room := { frames := 7, cells := 1, slots := 6, locals := 280 }
def F7_save (n : Nat) (v1 : Int32) (S : qSt) : Option (qOut × qSt) := obx (F7_requireSlot v1 S) (fun r4 S3 => ob1 (F3_keep n v1 8 S3) fun S8 => some (.inl (S8 8 1), S8)) opx
set_option maxRecDepth 100000 in
set_option maxHeartbeats 4000000 in
theorem kX7_save {l : Launch} {g : qG} (hl9 : l.stackTraces = false) (n : Nat) (v1 : Int32) (S : qSt) {out : qOut} {S2 : qSt} (h : F7_save n v1 S = some (out, S2)) : vx_Met l yX7_save [.code yX7_save cX7_save 2 (some .int)] rmX7_save (qPc g NL qT (qmem g S) [.ref (qa g 0), .int v1]) (qXi g out S2) (qXC g out S2) 1 6 (qA g) := by
  refine q_xmet (by decide) (Nat.le_of_ble_eq_true rfl) (fun p e s m args below meth c C hr hno => ?_)
  have C : qC g cX7_save RX7 2 p s m meth c := C
  show qR g NL qT 2 p l e rmX7_save s m args below meth c 0 0 (vx_MQ below (qXi g out S2) (qXC g out S2) args s 1 6 (qA g)) (qmem g S) 0 [(0, .ref (qa g 0)), (1, .int v1)] []
  unfold F7_save at h
  refine q_iload_n C 1 dX7_save_0 rfl rfl ?_
  obtain ⟨o2, S3, hc1, h5, h6⟩ := obx_e h
  refine q_xcallSv C (kX7_requireSlot hl9 v1 S hc1) lm7_277 rfl (rest := []) rfl (Nat.le_of_ble_eq_true rfl) dX7_save_1 ⟨rfl, rfl, Nat.le_of_ble_eq_true rfl, Nat.le_of_ble_eq_true rfl, Nat.le_of_ble_eq_true rfl, Nat.le_of_ble_eq_true rfl⟩ hno ⟨by decide, by decide⟩ (fun k hk => opx_e (h6 k hk)) (fun r4 hr4 => ?_)
  have h := h5 r4 hr4
  refine q_widen (k := 1) (n := 6) (by decide) (by decide) ?_
  refine q_aload_n C 0 dX7_save_4 rfl rfl ?_
  refine s_getr (a := 90) C lf7_50 ltp_0 kd_0 rfl dX7_save_5 ?_
  refine q_iload_n C 1 dX7_save_8 rfl rfl ?_
  refine q_aload_n C 0 dX7_save_9 rfl rfl ?_
  refine s_getr (a := 8) C lf7_33 ltp_0 kd_0 rfl dX7_save_10 ?_
  obtain ⟨S8, hc7, h⟩ := ob1_e h
  refine q_callVv0 C ltp_90 (qmem_o kd_90 (Nat.le_of_ble_eq_true rfl)) rfl rfl (kX3_keep n v1 8 (tyT_8) S3 hc7) lm7_280 rfl (rest := []) rfl (Nat.le_of_ble_eq_true rfl) dX7_save_13 ⟨rfl, rfl, Nat.le_of_ble_eq_true rfl, Nat.le_of_ble_eq_true rfl, Nat.le_of_ble_eq_true rfl, Nat.le_of_ble_eq_true rfl⟩ ?_
  refine q_aload_n C 0 dX7_save_16 rfl rfl ?_
  refine s_getr (a := 8) C lf7_33 ltp_0 kd_0 rfl dX7_save_17 ?_
  refine s_geti C lf7_103 ltp_8 kd_8 dX7_save_20 ?_
  exact q_xiret C hr h (by decide) (by decide) dX7_save_23
/-! ClosedStreets.restore -/
abbrev rmX7_restore : Room := { frames := 7, cells := 2, slots := 12, locals := 280 }
def F7_restore (n : Nat) (v1 : Int32) (S : qSt) : Option (qOut × qSt) := obx (F7_requireSlot v1 S) (fun r4 S3 => if qin v1 2 = true then if ¬ (S3 92 v1.toNatClampNeg) = 0 then (ob1 (F3_giveBack n v1 8 S3) fun S9 => ob1 (F0_forgetAll S9) fun S11 => some (.inl (S11 8 1), S11)) else (some (.inr 1, S3)) else none) opx
set_option maxRecDepth 100000 in
set_option maxHeartbeats 4000000 in
theorem kX7_restore {l : Launch} {g : qG} (hl9 : l.stackTraces = false) (n : Nat) (v1 : Int32) (S : qSt) {out : qOut} {S2 : qSt} (h : F7_restore n v1 S = some (out, S2)) : vx_Met l yX7_restore [.code yX7_restore cX7_restore 2 (some .int)] rmX7_restore (qPc g NL qT (qmem g S) [.ref (qa g 0), .int v1]) (qXi g out S2) (qXC g out S2) 2 12 (qA g) := by
  refine q_xmet (by decide) (Nat.le_of_ble_eq_true rfl) (fun p e s m args below meth c C hr hno => ?_)
  have C : qC g cX7_restore RX7 2 p s m meth c := C
  show qR g NL qT 2 p l e rmX7_restore s m args below meth c 0 0 (vx_MQ below (qXi g out S2) (qXC g out S2) args s 2 12 (qA g)) (qmem g S) 0 [(0, .ref (qa g 0)), (1, .int v1)] []
  unfold F7_restore at h
  refine q_iload_n C 1 dX7_restore_0 rfl rfl ?_
  obtain ⟨o2, S3, hc1, h5, h6⟩ := obx_e h
  refine q_xcallSv C (kX7_requireSlot hl9 v1 S hc1) lm7_277 rfl (rest := []) rfl (Nat.le_of_ble_eq_true rfl) dX7_restore_1 ⟨rfl, rfl, Nat.le_of_ble_eq_true rfl, Nat.le_of_ble_eq_true rfl, Nat.le_of_ble_eq_true rfl, Nat.le_of_ble_eq_true rfl⟩ hno ⟨by decide, by decide⟩ (fun k hk => opx_e (h6 k hk)) (fun r4 hr4 => ?_)
  have h := h5 r4 hr4
  refine q_widen (k := 1) (n := 6) (by decide) (by decide) ?_
  refine q_aload_n C 0 dX7_restore_4 rfl rfl ?_
  refine s_getr (a := 90) C lf7_50 ltp_0 kd_0 rfl dX7_restore_5 ?_
  refine s_getr (a := 92) C lf7_284 ltp_90 kd_90 rfl dX7_restore_8 ?_
  refine q_iload_n C 1 dX7_restore_11 rfl rfl ?_
  obtain ⟨hb7, h⟩ := q_if h
  refine s_zald C ltp_92 kd_92 hb7 dX7_restore_12 ?_
  refine q_if_ne (tgt := 27) C h dX7_restore_13 (by decide) (fun h => ?_) (fun h => ?_)
  · refine q_aload_n C 0 dX7_restore_27 rfl rfl ?_
    refine s_getr (a := 90) C lf7_50 ltp_0 kd_0 rfl dX7_restore_28 ?_
    refine q_iload_n C 1 dX7_restore_31 rfl rfl ?_
    refine q_aload_n C 0 dX7_restore_32 rfl rfl ?_
    refine s_getr (a := 8) C lf7_33 ltp_0 kd_0 rfl dX7_restore_33 ?_
    obtain ⟨S9, hc8, h⟩ := ob1_e h
    refine q_callVv0 C ltp_90 (qmem_o kd_90 (Nat.le_of_ble_eq_true rfl)) rfl rfl (kX3_giveBack n v1 8 (tyT_8) S3 hc8) lm7_289 rfl (rest := []) rfl (Nat.le_of_ble_eq_true rfl) dX7_restore_36 ⟨rfl, rfl, Nat.le_of_ble_eq_true rfl, Nat.le_of_ble_eq_true rfl, Nat.le_of_ble_eq_true rfl, Nat.le_of_ble_eq_true rfl⟩ ?_
    refine q_aload_n C 0 dX7_restore_39 rfl rfl ?_
    refine s_getr (a := 18) C lf7_43 ltp_0 kd_0 rfl dX7_restore_40 ?_
    obtain ⟨S11, hc10, h⟩ := ob1_e h
    refine q_callVv0 C ltp_18 (qmem_o kd_18 (Nat.le_of_ble_eq_true rfl)) rfl rfl (kX0_forgetAll S9 hc10) lm7_97 rfl (rest := []) rfl (Nat.le_of_ble_eq_true rfl) dX7_restore_43 ⟨rfl, rfl, Nat.le_of_ble_eq_true rfl, Nat.le_of_ble_eq_true rfl, Nat.le_of_ble_eq_true rfl, Nat.le_of_ble_eq_true rfl⟩ ?_
    refine q_aload_n C 0 dX7_restore_46 rfl rfl ?_
    refine s_getr (a := 8) C lf7_33 ltp_0 kd_0 rfl dX7_restore_47 ?_
    refine s_geti C lf7_103 ltp_8 kd_8 dX7_restore_50 ?_
    exact q_xiret C hr h (by decide) (by decide) dX7_restore_53
  · exact q_throwW (i := 25) (tx := "nothing has been saved in this slot") C hl9 lx7_E1 rfl h hno (Nat.le_of_ble_eq_true rfl) (Nat.le_of_ble_eq_true rfl) ⟨by decide, by decide⟩ ⟨by decide, by decide⟩ dX7_restore_16 dX7_restore_19 dX7_restore_20 dX7_restore_23 dX7_restore_26
end
