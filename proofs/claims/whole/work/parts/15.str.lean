/-! STRING CONSTANTS of PlanReader: a text is its place w < 6 -/
def qslen (w : Nat) : Int32 := Int32.ofNat (qSlen.getD w 0)
def qsb (w : Nat) (i : Nat) : Int32 := (qSbyt.getD w []).getD i 0
theorem qC.I {g : qG} {cc : ByteArray} {own : String} {nL : Nat} {p : Program} {s : State} {m : MethodId} {meth : Method} {c : Code} (C : qC g cc own nL p s m meth c) : qI g s s.heap := C.2.2.2.2.2.1
theorem qI.vkS {g : qG} {s : State} {H : Heap} (h : qI g s H) : vk_S 6 qSlen qSbyt g.2.2.2.1 g.2.2.2.2 (qA g) s H := h.2.2.2.2.2.2.2.2.1
theorem qI.cs {g : qG} {s : State} {H : Heap} (h : qI g s H) : va_Z "java/lang/String" "COMPACT_STRINGS" "Z" (.int 1) (qA g) s H := h.2.2.2.2.2.2.2.2.2.1
theorem qI.sio {g : qG} {s : State} {H : Heap} (h : qI g s H) : va_Zq "jdk/internal/util/Preconditions" "SIOOBE_FORMATTER" "Ljava/util/function/BiFunction;" (qA g) s H := h.2.2.2.2.2.2.2.2.2.2.1
section QSTR
variable {g : qG} {nL : Nat} {p : Program} {l : Launch} {e : Env} {R : Room} {s : State} {m : MethodId} {args : Array Value} {below : List Frame} {meth : Method} {c : Code} {cells slots : Nat} {Q : State → Prop} {S : qSt} {pc : Nat} {lv : List (Nat × Value)} {rest : List Value} {cc : ByteArray} {own : String}
theorem s_cs (C : qC g cc own nL p s m meth c) {index : Nat} (L : qw (.fieldLink own index "java/lang/String" "COMPACT_STRINGS" "Z")) (hdg : decode cc pc = .ok (.getstatic index, 3)) (kk : qR g NL qT nL p l e R s m args below meth c cells slots Q (qmem g S) (pc + 3) lv (.int 1 :: rest)) : qR g NL qT nL p l e R s m args below meth c cells slots Q (qmem g S) pc lv rest :=
  fun H locs ls hP hh hS hl => va_gets C.1 C.2.1 C.I.cs hS C.2.2.2.1 (C.w L) (fun _ h => h) hdg (kk H locs ls hP hh hS hl)
theorem s_sio (C : qC g cc own nL p s m meth c) {index : Nat} (L : qw (.fieldLink own index "jdk/internal/util/Preconditions" "SIOOBE_FORMATTER" "Ljava/util/function/BiFunction;")) (hdg : decode cc pc = .ok (.getstatic index, 3)) (kk : ∀ r : Option Nat, qR g NL qT nL p l e R s m args below meth c cells slots Q (qmem g S) (pc + 3) lv (va_rf r :: rest)) : qR g NL qT nL p l e R s m args below meth c cells slots Q (qmem g S) pc lv rest := by
  intro H locs ls hP hh hS hl
  rcases C.I.sio with h | ⟨t, h⟩
  · exact va_gets C.1 C.2.1 h hS C.2.2.2.1 (C.w L) (fun _ h => h) hdg (kk none H locs ls hP hh hS hl)
  · exact va_gets C.1 C.2.1 h hS C.2.2.2.1 (C.w L) (fun _ h => h) hdg (kk (some t) H locs ls hP hh hS hl)
theorem s_scod (C : qC g cc own nL p s m meth c) {index w : Nat} (hw : w < 6) (L : qw (.fieldLink own index "java/lang/String" "coder" "B")) (hdg : decode cc pc = .ok (.getfield index, 3)) (kk : qR g NL qT nL p l e R s m args below meth c cells slots Q (qmem g S) (pc + 3) lv (.int 0 :: rest)) : qR g NL qT nL p l e R s m args below meth c cells slots Q (qmem g S) pc lv (.ref (g.2.2.2.1 w) :: rest) :=
  fun H locs ls hP hh hS hl => vk_getf C.1 C.2.1 (C.I.vkS.1 w hw).2.1 hS C.2.2.2.1 (C.w L) (fun _ h => h) hdg (kk H locs ls hP hh hS hl)
theorem s_sval (C : qC g cc own nL p s m meth c) {index w : Nat} (hw : w < 6) (L : qw (.fieldLink own index "java/lang/String" "value" "[B")) (hdg : decode cc pc = .ok (.getfield index, 3)) (kk : qR g NL qT nL p l e R s m args below meth c cells slots Q (qmem g S) (pc + 3) lv (.ref (g.2.2.2.2 w) :: rest)) : qR g NL qT nL p l e R s m args below meth c cells slots Q (qmem g S) pc lv (.ref (g.2.2.2.1 w) :: rest) :=
  fun H locs ls hP hh hS hl => vk_getf C.1 C.2.1 (C.I.vkS.1 w hw).2.2.1 hS C.2.2.2.1 (C.w L) (fun _ h => h) hdg (kk H locs ls hP hh hS hl)
theorem s_slen (C : qC g cc own nL p s m meth c) {w : Nat} (hw : w < 6) (hdg : decode cc pc = .ok (.arraylength, 1)) (kk : qR g NL qT nL p l e R s m args below meth c cells slots Q (qmem g S) (pc + 1) lv (.int (qslen w) :: rest)) : qR g NL qT nL p l e R s m args below meth c cells slots Q (qmem g S) pc lv (.ref (g.2.2.2.2 w) :: rest) :=
  fun H locs ls hP hh hS hl => va_tlen C.1 C.2.1 (C.I.vkS.1 w hw).2.2.2 hS rfl hdg (kk H locs ls hP hh hS hl)
theorem s_sald (C : qC g cc own nL p s m meth c) {w : Nat} {i : Int32} (hw : w < 6) (hin : qin i (qSlen.getD w 0) = true) (hdg : decode cc pc = .ok (.baload, 1)) (kk : qR g NL qT nL p l e R s m args below meth c cells slots Q (qmem g S) (pc + 1) lv (.int (qsb w i.toNatClampNeg) :: rest)) : qR g NL qT nL p l e R s m args below meth c cells slots Q (qmem g S) pc lv (.int i :: .ref (g.2.2.2.2 w) :: rest) :=
  fun H locs ls hP hh hS hl => va_tb C.1 C.2.1 (C.I.vkS.1 w hw).2.2.2 hS (qin_vp hin) rfl hdg (kk H locs ls hP hh hS hl)
theorem s_ishr (C : qC g cc own nL p s m meth c) {x y : Int32} (hdg : decode cc pc = .ok (.ishr, 1)) (kk : qR g NL qT nL p l e R s m args below meth c cells slots Q (qmem g S) (pc + 1) lv (.int (x >>> (y &&& 31)) :: rest)) : qR g NL qT nL p l e R s m args below meth c cells slots Q (qmem g S) pc lv (.int y :: .int x :: rest) :=
  fun H locs ls hP hh hS hl => lv_ishr C.1 C.2.1 hdg (kk H locs ls hP hh hS hl)
theorem s_ldcS (C : qC g cc own nL p s m meth c) {index i : Nat} {tx : String} (hi : qStr[i]? = some (own, index, tx)) (hdg : decode cc pc = .ok (.ldc index, 2)) (kk : qR g NL qT nL p l e R s m args below meth c cells slots Q (qmem g S) (pc + 2) lv (.ref (g.2.2.2.1 i) :: rest)) : qR g NL qT nL p l e R s m args below meth c cells slots Q (qmem g S) pc lv rest :=
  fun H locs ls hP hh hS hl => va_ldcS C.1 C.2.1 C.2.2.2.1 (C.I.2.2.2.2.2.1 i _ hi) hdg (kk H locs ls hP hh hS hl)
/-- an answer of a small type -/
theorem q_nret (C : qC g cc own nL p s m meth c) {mc ms : Nat} {v : Int32} {ty : FieldType} (hr : meth.sig.returnType = some ty) (hv : narrow ty (.int v) = .int v) (h1 : cells ≤ mc) (h2 : slots ≤ ms) (hdg : decode cc pc = .ok (.ireturn, 1)) : qR g NL qT nL p l e R s m args below meth c cells slots (MQ below (qQi g NL qT (qmem g S) v) args s mc ms (qA g)) (qmem g S) pc lv [.int v] := by
  intro H locs ls hP hh hS hl
  have hlocks := C.2.2.2.2.1
  refine W.widen h1 h2 ?_
  exact W.zret C.1 C.2.1 hr hv (fun t ht hW => ⟨⟨v, (), rfl, rfl, by rw [← ht] at hP hh; exact ⟨hP, hh⟩⟩, hS.F ht⟩) hS.2.2 hdg
/-- a call on a text -/
theorem q_callT (C : qC g cc own nL p s m meth c) {y : MethodName} {bytes : ByteArray} {rm : Room} {maxL n index w : Nat} {As st0 : List Value} {ret : Option FieldType} {r0 : Int32} (hw : w < 6) (hy : y.cls = "java/lang/String") (hM : Met l y [.code y bytes maxL ret] rm (qPc g NL qT (qmem g S) (.ref (g.2.2.2.1 w) :: As)) (qQi g NL qT (qmem g S) r0) 0 0 (qA g)) (L : qLV own index y bytes maxL ret n) (hn : As.length = n) (hst : st0 = As.reverse ++ .ref (g.2.2.2.1 w) :: rest) (hcat : (rest.map fun v => v.category).sum ≤ 8) (hdg : decode cc pc = .ok (.invokevirtual index, 3)) (hrm : qRm rm R maxL cells slots 0 0) (k : qR g NL qT nL p l e R s m args below meth c cells slots Q (qmem g S) (pc + 3) lv (.int r0 :: rest)) : qR g NL qT nL p l e R s m args below meth c cells slots Q (qmem g S) pc lv st0 := by
  intro H locs ls hP hh hS hl
  exact va_calli (va_runV (As := As) (rest := rest) (Ts := []) ⟨C.1, C.2.1, C.2.2.1, C.2.2.2.1, fun w h => nomatch h⟩ hM (L.cw (R := R) (args := args) C hrm) ⟨qPc_blind _ _ _ _ _, hy ▸ vk_recv C.I.vkS hw hS, C.at hP hh hS _⟩ rfl hn hl.1 hst (lv_room hcat) hdg ⟨hrm.2.2.2.2.1, hrm.2.2.2.2.2⟩) hS (fun q _ h => h) (fun q h => h) (fun r u t H1 locs1 ht hvm hw hB hz0 hk1 hS1 => by subst hw; rw [← ht] at hS1 ⊢; exact k _ _ ls hB.1 hB.2 hS1 hl)
end QSTR
theorem cwJ0_length_8abf5 : qw (.instanceMethod yJ0_length_8abf5) ∧ qw (.selects yJ0_length_8abf5.cls yJ0_length_8abf5 yJ0_length_8abf5) ∧ qw (.initialized yJ0_length_8abf5.cls) ∧ qw (.code yJ0_length_8abf5 cJ0_length_8abf5 1 (some .int)) ∧ (yJ0_length_8abf5.cls ≠ "java/lang/invoke/MethodHandle" ∧ yJ0_length_8abf5.cls ≠ "java/lang/invoke/VarHandle") ∧ (parseMethodDescriptor yJ0_length_8abf5.desc).map (fun d => d.parameters.length) = some 0 := ⟨(qwi 294 (by decide +kernel) (by decide +kernel)), (qwi 295 (by decide +kernel) (by decide +kernel)), (qwi 60 (by decide +kernel) (by decide +kernel)), (qwi 296 (by decide +kernel) (by decide +kernel)), ⟨by decide +kernel, by decide +kernel⟩, by decide +kernel⟩
theorem cwJ0_coder_7d493 : qw (.instanceMethod yJ0_coder_7d493) ∧ qw (.selects yJ0_coder_7d493.cls yJ0_coder_7d493 yJ0_coder_7d493) ∧ qw (.initialized yJ0_coder_7d493.cls) ∧ qw (.code yJ0_coder_7d493 cJ0_coder_7d493 1 (some .byte)) ∧ (yJ0_coder_7d493.cls ≠ "java/lang/invoke/MethodHandle" ∧ yJ0_coder_7d493.cls ≠ "java/lang/invoke/VarHandle") ∧ (parseMethodDescriptor yJ0_coder_7d493.desc).map (fun d => d.parameters.length) = some 0 := ⟨(qwi 298 (by decide +kernel) (by decide +kernel)), (qwi 299 (by decide +kernel) (by decide +kernel)), (qwi 60 (by decide +kernel) (by decide +kernel)), (qwi 300 (by decide +kernel) (by decide +kernel)), ⟨by decide +kernel, by decide +kernel⟩, by decide +kernel⟩
theorem cwJ0_charAt_5068e : qw (.instanceMethod yJ0_charAt_5068e) ∧ qw (.selects yJ0_charAt_5068e.cls yJ0_charAt_5068e yJ0_charAt_5068e) ∧ qw (.initialized yJ0_charAt_5068e.cls) ∧ qw (.code yJ0_charAt_5068e cJ0_charAt_5068e 2 (some .char)) ∧ (yJ0_charAt_5068e.cls ≠ "java/lang/invoke/MethodHandle" ∧ yJ0_charAt_5068e.cls ≠ "java/lang/invoke/VarHandle") ∧ (parseMethodDescriptor yJ0_charAt_5068e.desc).map (fun d => d.parameters.length) = some 1 := ⟨(qwi 304 (by decide +kernel) (by decide +kernel)), (qwi 305 (by decide +kernel) (by decide +kernel)), (qwi 60 (by decide +kernel) (by decide +kernel)), (qwi 306 (by decide +kernel) (by decide +kernel)), ⟨by decide +kernel, by decide +kernel⟩, by decide +kernel⟩
theorem cwJ0_isLatin1_aae02 : qw (.instanceMethod yJ0_isLatin1_aae02) ∧ qw (.selects yJ0_isLatin1_aae02.cls yJ0_isLatin1_aae02 yJ0_isLatin1_aae02) ∧ qw (.initialized yJ0_isLatin1_aae02.cls) ∧ qw (.code yJ0_isLatin1_aae02 cJ0_isLatin1_aae02 1 (some .boolean)) ∧ (yJ0_isLatin1_aae02.cls ≠ "java/lang/invoke/MethodHandle" ∧ yJ0_isLatin1_aae02.cls ≠ "java/lang/invoke/VarHandle") ∧ (parseMethodDescriptor yJ0_isLatin1_aae02.desc).map (fun d => d.parameters.length) = some 0 := ⟨(qwi 308 (by decide +kernel) (by decide +kernel)), (qwi 309 (by decide +kernel) (by decide +kernel)), (qwi 60 (by decide +kernel) (by decide +kernel)), (qwi 310 (by decide +kernel) (by decide +kernel)), ⟨by decide +kernel, by decide +kernel⟩, by decide +kernel⟩
theorem cwJ0_isEmpty_aae02 : qw (.instanceMethod yJ0_isEmpty_aae02) ∧ qw (.selects yJ0_isEmpty_aae02.cls yJ0_isEmpty_aae02 yJ0_isEmpty_aae02) ∧ qw (.initialized yJ0_isEmpty_aae02.cls) ∧ qw (.code yJ0_isEmpty_aae02 cJ0_isEmpty_aae02 1 (some .boolean)) ∧ (yJ0_isEmpty_aae02.cls ≠ "java/lang/invoke/MethodHandle" ∧ yJ0_isEmpty_aae02.cls ≠ "java/lang/invoke/VarHandle") ∧ (parseMethodDescriptor yJ0_isEmpty_aae02.desc).map (fun d => d.parameters.length) = some 0 := ⟨(qwi 342 (by decide +kernel) (by decide +kernel)), (qwi 343 (by decide +kernel) (by decide +kernel)), (qwi 60 (by decide +kernel) (by decide +kernel)), (qwi 344 (by decide +kernel) (by decide +kernel)), ⟨by decide +kernel, by decide +kernel⟩, by decide +kernel⟩
theorem cwJ1_charAt_3b067 : qw (.static yJ1_charAt_3b067) ∧ qw (.initialized yJ1_charAt_3b067.cls) ∧ qw (.code yJ1_charAt_3b067 cJ1_charAt_3b067 2 (some .char)) ∧ (yJ1_charAt_3b067.cls ≠ "java/lang/invoke/MethodHandle" ∧ yJ1_charAt_3b067.cls ≠ "java/lang/invoke/VarHandle") ∧ (parseMethodDescriptor yJ1_charAt_3b067.desc).map (fun d => d.parameters.length) = some 2 := ⟨(qwi 312 (by decide +kernel) (by decide +kernel)), (qwi 61 (by decide +kernel) (by decide +kernel)), (qwi 313 (by decide +kernel) (by decide +kernel)), ⟨by decide +kernel, by decide +kernel⟩, by decide +kernel⟩
theorem cwJ0_checkIndex_df160 : qw (.static yJ0_checkIndex_df160) ∧ qw (.initialized yJ0_checkIndex_df160.cls) ∧ qw (.code yJ0_checkIndex_df160 cJ0_checkIndex_df160 2 none) ∧ (yJ0_checkIndex_df160.cls ≠ "java/lang/invoke/MethodHandle" ∧ yJ0_checkIndex_df160.cls ≠ "java/lang/invoke/VarHandle") ∧ (parseMethodDescriptor yJ0_checkIndex_df160.desc).map (fun d => d.parameters.length) = some 2 := ⟨(qwi 315 (by decide +kernel) (by decide +kernel)), (qwi 60 (by decide +kernel) (by decide +kernel)), (qwi 316 (by decide +kernel) (by decide +kernel)), ⟨by decide +kernel, by decide +kernel⟩, by decide +kernel⟩
theorem cwJ3_checkIndex_8e157 : qw (.static yJ3_checkIndex_8e157) ∧ qw (.initialized yJ3_checkIndex_8e157.cls) ∧ qw (.code yJ3_checkIndex_8e157 cJ3_checkIndex_8e157 3 (some .int)) ∧ (yJ3_checkIndex_8e157.cls ≠ "java/lang/invoke/MethodHandle" ∧ yJ3_checkIndex_8e157.cls ≠ "java/lang/invoke/VarHandle") ∧ (parseMethodDescriptor yJ3_checkIndex_8e157.desc).map (fun d => d.parameters.length) = some 3 := ⟨(qwi 320 (by decide +kernel) (by decide +kernel)), (qwi 62 (by decide +kernel) (by decide +kernel)), (qwi 321 (by decide +kernel) (by decide +kernel)), ⟨by decide +kernel, by decide +kernel⟩, by decide +kernel⟩
theorem lm1_63 : qLV RX1 63 yJ0_length_8abf5 cJ0_length_8abf5 1 (some .int) 0 := ⟨(qwi 293 (by decide +kernel) (by decide +kernel)), cwJ0_length_8abf5⟩
theorem lm1_68 : qLV RX1 68 yJ0_charAt_5068e cJ0_charAt_5068e 2 (some .char) 1 := ⟨(qwi 303 (by decide +kernel) (by decide +kernel)), cwJ0_charAt_5068e⟩
theorem lm1_72 : qLV RX1 72 yJ0_isEmpty_aae02 cJ0_isEmpty_aae02 1 (some .boolean) 0 := ⟨(qwi 341 (by decide +kernel) (by decide +kernel)), cwJ0_isEmpty_aae02⟩
theorem lmJ0_335 : qLV RJ0 335 yJ0_coder_7d493 cJ0_coder_7d493 1 (some .byte) 0 := ⟨(qwi 297 (by decide +kernel) (by decide +kernel)), cwJ0_coder_7d493⟩
theorem lmJ0_492 : qLV RJ0 492 yJ0_isLatin1_aae02 cJ0_isLatin1_aae02 1 (some .boolean) 0 := ⟨(qwi 307 (by decide +kernel) (by decide +kernel)), cwJ0_isLatin1_aae02⟩
theorem lmJ0_495 : qLS RJ0 495 yJ1_charAt_3b067 cJ1_charAt_3b067 2 (some .char) 2 := ⟨(qwi 311 (by decide +kernel) (by decide +kernel)), cwJ1_charAt_3b067⟩
theorem lmJ1_9 : qLS RJ1 9 yJ0_checkIndex_df160 cJ0_checkIndex_df160 2 none 2 := ⟨(qwi 314 (by decide +kernel) (by decide +kernel)), cwJ0_checkIndex_df160⟩
theorem lmJ0_1059 : qLS RJ0 1059 yJ3_checkIndex_8e157 cJ3_checkIndex_8e157 3 (some .int) 3 := ⟨(qwi 319 (by decide +kernel) (by decide +kernel)), cwJ3_checkIndex_8e157⟩
abbrev rmJ0_coder_7d493 : Room := { frames := 0, cells := 0, slots := 0, locals := 0 }
set_option maxRecDepth 100000 in
set_option maxHeartbeats 4000000 in
theorem kJ0_coder_7d493 {l : Launch} {g : qG} (w : Nat) (hw : w < 6) (S : qSt) : Met l yJ0_coder_7d493 [.code yJ0_coder_7d493 cJ0_coder_7d493 1 (some .byte)] rmJ0_coder_7d493 (qPc g NL qT (qmem g S) [.ref (g.2.2.2.1 w)]) (qQi g NL qT (qmem g S) 0) 0 0 (qA g) := by
  refine q_met (by decide) (by first | exact Nat.le_of_ble_eq_true rfl | (cases z2 <;> exact Nat.le_of_ble_eq_true rfl)) (fun p e s m args below meth c C hr _ => ?_)
  have C : qC g cJ0_coder_7d493 RJ0 1 p s m meth c := C
  show qR g NL qT 1 p l e rmJ0_coder_7d493 s m args below meth c 0 0 (MQ below (qQi g NL qT (qmem g S) 0) args s 0 0 (qA g)) (qmem g S) 0 [(0, .ref (g.2.2.2.1 w))] []
  refine s_cs C (qwi 301 (by decide +kernel) (by decide +kernel)) dJ0_coder_7d493_0 ?_
  refine q_if_eq (tgt := 13) (α := Nat) (A := 0) (B := 1) (r := 1) C rfl dJ0_coder_7d493_3 (by decide) (fun h => absurd h (by decide)) (fun h => ?_)
  refine q_aload_n C 0 dJ0_coder_7d493_6 rfl rfl ?_
  refine s_scod C hw (qwi 1250 (by decide +kernel) (by decide +kernel)) dJ0_coder_7d493_7 ?_
  refine q_goto (tgt := 14) C dJ0_coder_7d493_10 (by decide) ?_
  exact q_nret C hr rfl (Nat.le_refl 0) (Nat.le_refl 0) dJ0_coder_7d493_14
abbrev rmJ0_isLatin1_aae02 : Room := { frames := 0, cells := 0, slots := 0, locals := 0 }
set_option maxRecDepth 100000 in
set_option maxHeartbeats 4000000 in
theorem kJ0_isLatin1_aae02 {l : Launch} {g : qG} (w : Nat) (hw : w < 6) (S : qSt) : Met l yJ0_isLatin1_aae02 [.code yJ0_isLatin1_aae02 cJ0_isLatin1_aae02 1 (some .boolean)] rmJ0_isLatin1_aae02 (qPc g NL qT (qmem g S) [.ref (g.2.2.2.1 w)]) (qQi g NL qT (qmem g S) 1) 0 0 (qA g) := by
  refine q_met (by decide) (by first | exact Nat.le_of_ble_eq_true rfl | (cases z2 <;> exact Nat.le_of_ble_eq_true rfl)) (fun p e s m args below meth c C hr _ => ?_)
  have C : qC g cJ0_isLatin1_aae02 RJ0 1 p s m meth c := C
  show qR g NL qT 1 p l e rmJ0_isLatin1_aae02 s m args below meth c 0 0 (MQ below (qQi g NL qT (qmem g S) 1) args s 0 0 (qA g)) (qmem g S) 0 [(0, .ref (g.2.2.2.1 w))] []
  refine s_cs C (qwi 301 (by decide +kernel) (by decide +kernel)) dJ0_isLatin1_aae02_0 ?_
  refine q_if_eq (tgt := 17) (α := Nat) (A := 0) (B := 1) (r := 1) C rfl dJ0_isLatin1_aae02_3 (by decide) (fun h => absurd h (by decide)) (fun h => ?_)
  refine q_aload_n C 0 dJ0_isLatin1_aae02_6 rfl rfl ?_
  refine s_scod C hw (qwi 1250 (by decide +kernel) (by decide +kernel)) dJ0_isLatin1_aae02_7 ?_
  refine q_if_ne (tgt := 17) (α := Nat) (A := 0) (B := 1) (r := 1) C rfl dJ0_isLatin1_aae02_10 (by decide) (fun h => absurd h (by decide)) (fun h => ?_)
  refine q_iconst (v := 1) C dJ0_isLatin1_aae02_13 (by decide) ?_
  refine q_goto (tgt := 18) C dJ0_isLatin1_aae02_14 (by decide) ?_
  exact q_nret C hr rfl (Nat.le_refl 0) (Nat.le_refl 0) dJ0_isLatin1_aae02_18
theorem qslen_shr : ∀ w, w < 6 → qslen w >>> ((0 : Int32) &&& 31) = qslen w := by decide +kernel
/-- isEmpty -/
def qsemp (w : Nat) : Int32 := if qslen w = 0 then 1 else 0
abbrev rmJ0_length_8abf5 : Room := { frames := 1, cells := 0, slots := 0, locals := 40 }
set_option maxRecDepth 100000 in
set_option maxHeartbeats 4000000 in
theorem kJ0_length_8abf5 {l : Launch} {g : qG} (w : Nat) (hw : w < 6) (S : qSt) : Met l yJ0_length_8abf5 [.code yJ0_length_8abf5 cJ0_length_8abf5 1 (some .int)] rmJ0_length_8abf5 (qPc g NL qT (qmem g S) [.ref (g.2.2.2.1 w)]) (qQi g NL qT (qmem g S) (qslen w)) 0 0 (qA g) := by
  refine q_met (by decide) (by first | exact Nat.le_of_ble_eq_true rfl | (cases z2 <;> exact Nat.le_of_ble_eq_true rfl)) (fun p e s m args below meth c C hr _ => ?_)
  have C : qC g cJ0_length_8abf5 RJ0 1 p s m meth c := C
  show qR g NL qT 1 p l e rmJ0_length_8abf5 s m args below meth c 0 0 (MQ below (qQi g NL qT (qmem g S) (qslen w)) args s 0 0 (qA g)) (qmem g S) 0 [(0, .ref (g.2.2.2.1 w))] []
  refine q_aload_n C 0 dJ0_length_8abf5_0 rfl rfl ?_
  refine s_sval C hw (qwi 1249 (by decide +kernel) (by decide +kernel)) dJ0_length_8abf5_1 ?_
  refine s_slen C hw dJ0_length_8abf5_4 ?_
  refine q_aload_n C 0 dJ0_length_8abf5_5 rfl rfl ?_
  refine q_callT C hw rfl (kJ0_coder_7d493 w hw S) lmJ0_335 rfl (rest := [.int (qslen w)]) rfl (Nat.le_of_ble_eq_true rfl) dJ0_length_8abf5_6 ⟨rfl, rfl, Nat.le_of_ble_eq_true rfl, Nat.le_of_ble_eq_true rfl, Nat.le_refl 0, Nat.le_refl 0⟩ ?_
  refine s_ishr C dJ0_length_8abf5_9 ?_
  rw [qslen_shr w hw]
  exact q_iret C hr (Nat.le_refl 0) (Nat.le_refl 0) dJ0_length_8abf5_10
abbrev rmJ0_isEmpty_aae02 : Room := { frames := 0, cells := 0, slots := 0, locals := 0 }
set_option maxRecDepth 100000 in
set_option maxHeartbeats 4000000 in
theorem kJ0_isEmpty_aae02 {l : Launch} {g : qG} (w : Nat) (hw : w < 6) (S : qSt) : Met l yJ0_isEmpty_aae02 [.code yJ0_isEmpty_aae02 cJ0_isEmpty_aae02 1 (some .boolean)] rmJ0_isEmpty_aae02 (qPc g NL qT (qmem g S) [.ref (g.2.2.2.1 w)]) (qQi g NL qT (qmem g S) (qsemp w)) 0 0 (qA g) := by
  refine q_met (by decide) (by first | exact Nat.le_of_ble_eq_true rfl | (cases z2 <;> exact Nat.le_of_ble_eq_true rfl)) (fun p e s m args below meth c C hr _ => ?_)
  have C : qC g cJ0_isEmpty_aae02 RJ0 1 p s m meth c := C
  show qR g NL qT 1 p l e rmJ0_isEmpty_aae02 s m args below meth c 0 0 (MQ below (qQi g NL qT (qmem g S) (qsemp w)) args s 0 0 (qA g)) (qmem g S) 0 [(0, .ref (g.2.2.2.1 w))] []
  refine q_aload_n C 0 dJ0_isEmpty_aae02_0 rfl rfl ?_
  refine s_sval C hw (qwi 1249 (by decide +kernel) (by decide +kernel)) dJ0_isEmpty_aae02_1 ?_
  refine s_slen C hw dJ0_isEmpty_aae02_4 ?_
  refine q_if_ne (tgt := 12) (α := Bool) (A := false) (B := true) (r := if ¬ qslen w = 0 then false else true) C rfl dJ0_isEmpty_aae02_5 (by decide) (fun h => ?_) (fun h => ?_)
  · refine q_iconst (v := 0) C dJ0_isEmpty_aae02_12 (by decide) ?_
    have hz : qsemp w = 0 := by
      unfold qsemp
      by_cases q : qslen w = 0
      · rw [if_neg (fun z => z q)] at h; cases h
      · rw [if_neg q]
    rw [hz]
    exact q_nret C hr rfl (Nat.le_refl 0) (Nat.le_refl 0) dJ0_isEmpty_aae02_13
  · refine q_iconst (v := 1) C dJ0_isEmpty_aae02_8 (by decide) ?_
    refine q_goto (tgt := 13) C dJ0_isEmpty_aae02_9 (by decide) ?_
    have hz : qsemp w = 1 := by
      unfold qsemp
      by_cases q : qslen w = 0
      · rw [if_pos q]
      · rw [if_pos q] at h; cases h
    rw [hz]
    exact q_nret C hr rfl (Nat.le_refl 0) (Nat.le_refl 0) dJ0_isEmpty_aae02_13
abbrev rmJ3_checkIndex_8e157 : Room := { frames := 0, cells := 0, slots := 0, locals := 0 }
set_option maxRecDepth 100000 in
set_option maxHeartbeats 4000000 in
theorem kJ3_checkIndex_8e157 {l : Launch} {g : qG} (i n0 : Int32) (z2 : Option Nat) (h1 : ¬ i < 0) (h2 : i < n0) (S : qSt) : Met l yJ3_checkIndex_8e157 [.code yJ3_checkIndex_8e157 cJ3_checkIndex_8e157 3 (some .int)] rmJ3_checkIndex_8e157 (qPc g NL qT (qmem g S) [.int i, .int n0, va_rf z2]) (qQi g NL qT (qmem g S) i) 0 0 (qA g) := by
  refine q_met (by decide) (by first | exact Nat.le_of_ble_eq_true rfl | (cases z2 <;> exact Nat.le_of_ble_eq_true rfl)) (fun p e s m args below meth c C hr _ => ?_)
  have C : qC g cJ3_checkIndex_8e157 RJ3 3 p s m meth c := C
  show qR g NL qT 3 p l e rmJ3_checkIndex_8e157 s m args below meth c 0 0 (MQ below (qQi g NL qT (qmem g S) i) args s 0 0 (qA g)) (qmem g S) 0 [(0, .int i), (1, .int n0), (2, va_rf z2)] []
  refine q_iload_n C 0 dJ3_checkIndex_8e157_0 rfl rfl ?_
  refine q_if_lt (tgt := 9) (α := Bool) (A := true) (B := false) (r := false) C (if_neg h1) dJ3_checkIndex_8e157_1 (by decide) (fun h => nomatch h) (fun h => ?_)
  refine q_iload_n C 0 dJ3_checkIndex_8e157_4 rfl rfl ?_
  refine q_iload_n C 1 dJ3_checkIndex_8e157_5 rfl rfl ?_
  refine q_icmp_lt (tgt := 16) (α := Bool) (A := true) (B := false) (r := true) C (if_pos h2) dJ3_checkIndex_8e157_6 (by decide) (fun h => ?_) (fun h => nomatch h)
  refine q_iload_n C 0 dJ3_checkIndex_8e157_16 rfl rfl ?_
  exact q_iret C hr (Nat.le_refl 0) (Nat.le_refl 0) dJ3_checkIndex_8e157_17
abbrev rmJ0_checkIndex_df160 : Room := { frames := 1, cells := 0, slots := 0, locals := 40 }
set_option maxRecDepth 100000 in
set_option maxHeartbeats 4000000 in
theorem kJ0_checkIndex_df160 {l : Launch} {g : qG} (i n0 : Int32) (h1 : ¬ i < 0) (h2 : i < n0) (S : qSt) : Met l yJ0_checkIndex_df160 [.code yJ0_checkIndex_df160 cJ0_checkIndex_df160 2 none] rmJ0_checkIndex_df160 (qPc g NL qT (qmem g S) [.int i, .int n0]) (qQv g NL qT (qmem g S)) 0 0 (qA g) := by
  refine q_met (by decide) (by first | exact Nat.le_of_ble_eq_true rfl | (cases z2 <;> exact Nat.le_of_ble_eq_true rfl)) (fun p e s m args below meth c C hr _ => ?_)
  have C : qC g cJ0_checkIndex_df160 RJ0 2 p s m meth c := C
  show qR g NL qT 2 p l e rmJ0_checkIndex_df160 s m args below meth c 0 0 (MQ below (qQv g NL qT (qmem g S)) args s 0 0 (qA g)) (qmem g S) 0 [(0, .int i), (1, .int n0)] []
  refine q_iload_n C 0 dJ0_checkIndex_df160_0 rfl rfl ?_
  refine q_iload_n C 1 dJ0_checkIndex_df160_1 rfl rfl ?_
  refine s_sio C (qwi 317 (by decide +kernel) (by decide +kernel)) dJ0_checkIndex_df160_2 (fun z2 => ?_)
  refine q_callSi0 C (kJ3_checkIndex_8e157 i n0 z2 h1 h2 S) lmJ0_1059 rfl (rest := []) rfl (Nat.le_of_ble_eq_true rfl) dJ0_checkIndex_df160_5 ⟨rfl, rfl, Nat.le_of_ble_eq_true rfl, Nat.le_of_ble_eq_true rfl, Nat.le_refl 0, Nat.le_refl 0⟩ ?_
  refine q_pop C dJ0_checkIndex_df160_8 rfl ?_
  exact q_vret C hr (Nat.le_refl 0) (Nat.le_refl 0) dJ0_checkIndex_df160_9
/-- charAt -/
def qsch (w : Nat) (i : Int32) : Option Int32 := if qin i (qSlen.getD w 0) = true then some (qsb w i.toNatClampNeg) else none
theorem qs_all : ∀ w, w < 6 → ∀ k, k < qSlen.getD w 0 → ((qsb w k &&& 255).toUInt32 % 65536).toInt32 = qsb w k ∧ narrow .char (.int (qsb w k)) = .int (qsb w k) := by decide +kernel
theorem qslen_nat : ∀ w, w < 6 → qSlen.getD w 0 < 6 := by decide +kernel
theorem qs_ix {w : Nat} (hw : w < 6) {i : Int32} (h : qin i (qSlen.getD w 0) = true) : ¬ i < 0 ∧ i < qslen w := by
  have hlt := qin_lt h
  have h6 := qslen_nat w hw
  have h0 : 0 ≤ i := by
    simp only [qin, Bool.and_eq_true, decide_eq_true_eq] at h
    exact h.1
  have h0' := Int32.le_iff_toInt_le.mp h0
  have e1 : (qslen w).toInt = (qSlen.getD w 0 : Nat) := by
    unfold qslen
    exact nI_toInt (by omega)
  have e2 : (i.toNatClampNeg : Int) = i.toInt := by
    have : i.toNatClampNeg = i.toInt.toNat := rfl
    have h9 : (0 : Int) ≤ i.toInt := h0'
    omega
  refine ⟨fun q => ?_, Int32.lt_iff_toInt_lt.mpr ?_⟩
  · have := Int32.lt_iff_toInt_lt.mp q
    omega
  · omega
abbrev rmJ1_charAt_3b067 : Room := { frames := 2, cells := 0, slots := 0, locals := 80 }
set_option maxRecDepth 100000 in
set_option maxHeartbeats 4000000 in
theorem kJ1_charAt_3b067 {l : Launch} {g : qG} (w : Nat) (hw : w < 6) (i : Int32) (h : qin i (qSlen.getD w 0) = true) (S : qSt) : Met l yJ1_charAt_3b067 [.code yJ1_charAt_3b067 cJ1_charAt_3b067 2 (some .char)] rmJ1_charAt_3b067 (qPc g NL qT (qmem g S) [.ref (g.2.2.2.2 w), .int i]) (qQi g NL qT (qmem g S) (qsb w i.toNatClampNeg)) 0 0 (qA g) := by
  refine q_met (by decide) (by first | exact Nat.le_of_ble_eq_true rfl | (cases z2 <;> exact Nat.le_of_ble_eq_true rfl)) (fun p e s m args below meth c C hr _ => ?_)
  have C : qC g cJ1_charAt_3b067 RJ1 2 p s m meth c := C
  show qR g NL qT 2 p l e rmJ1_charAt_3b067 s m args below meth c 0 0 (MQ below (qQi g NL qT (qmem g S) (qsb w i.toNatClampNeg)) args s 0 0 (qA g)) (qmem g S) 0 [(0, .ref (g.2.2.2.2 w)), (1, .int i)] []
  obtain ⟨h1, h2⟩ := qs_ix hw h
  refine q_iload_n C 1 dJ1_charAt_3b067_0 rfl rfl ?_
  refine q_aload_n C 0 dJ1_charAt_3b067_1 rfl rfl ?_
  refine s_slen C hw dJ1_charAt_3b067_2 ?_
  refine q_callSv0 C (kJ0_checkIndex_df160 i (qslen w) h1 h2 S) lmJ1_9 rfl (rest := []) rfl (Nat.le_of_ble_eq_true rfl) dJ1_charAt_3b067_3 ⟨rfl, rfl, Nat.le_of_ble_eq_true rfl, Nat.le_of_ble_eq_true rfl, Nat.le_refl 0, Nat.le_refl 0⟩ ?_
  refine q_aload_n C 0 dJ1_charAt_3b067_6 rfl rfl ?_
  refine q_iload_n C 1 dJ1_charAt_3b067_7 rfl rfl ?_
  refine s_sald C hw h dJ1_charAt_3b067_8 ?_
  refine q_sipush (v := 255) C dJ1_charAt_3b067_9 (by decide) ?_
  refine q_iand C dJ1_charAt_3b067_12 ?_
  refine q_i2c C dJ1_charAt_3b067_13 (qs_all w hw _ (qin_lt h)).1 ?_
  exact q_nret C hr (qs_all w hw _ (qin_lt h)).2 (Nat.le_refl 0) (Nat.le_refl 0) dJ1_charAt_3b067_14
abbrev rmJ0_charAt_5068e : Room := { frames := 3, cells := 0, slots := 0, locals := 120 }
set_option maxRecDepth 100000 in
set_option maxHeartbeats 4000000 in
theorem kJ0_charAt_5068e {l : Launch} {g : qG} (w : Nat) (hw : w < 6) (i : Int32) (h : qin i (qSlen.getD w 0) = true) (S : qSt) : Met l yJ0_charAt_5068e [.code yJ0_charAt_5068e cJ0_charAt_5068e 2 (some .char)] rmJ0_charAt_5068e (qPc g NL qT (qmem g S) [.ref (g.2.2.2.1 w), .int i]) (qQi g NL qT (qmem g S) (qsb w i.toNatClampNeg)) 0 0 (qA g) := by
  refine q_met (by decide) (by first | exact Nat.le_of_ble_eq_true rfl | (cases z2 <;> exact Nat.le_of_ble_eq_true rfl)) (fun p e s m args below meth c C hr _ => ?_)
  have C : qC g cJ0_charAt_5068e RJ0 2 p s m meth c := C
  show qR g NL qT 2 p l e rmJ0_charAt_5068e s m args below meth c 0 0 (MQ below (qQi g NL qT (qmem g S) (qsb w i.toNatClampNeg)) args s 0 0 (qA g)) (qmem g S) 0 [(0, .ref (g.2.2.2.1 w)), (1, .int i)] []
  refine q_aload_n C 0 dJ0_charAt_5068e_0 rfl rfl ?_
  refine q_callT C hw rfl (kJ0_isLatin1_aae02 w hw S) lmJ0_492 rfl (rest := []) rfl (Nat.le_of_ble_eq_true rfl) dJ0_charAt_5068e_1 ⟨rfl, rfl, Nat.le_of_ble_eq_true rfl, Nat.le_of_ble_eq_true rfl, Nat.le_refl 0, Nat.le_refl 0⟩ ?_
  refine q_if_eq (tgt := 16) (α := Nat) (A := 0) (B := 1) (r := 1) C rfl dJ0_charAt_5068e_4 (by decide) (fun h => absurd h (by decide)) (fun h9 => ?_)
  refine q_aload_n C 0 dJ0_charAt_5068e_7 rfl rfl ?_
  refine s_sval C hw (qwi 1249 (by decide +kernel) (by decide +kernel)) dJ0_charAt_5068e_8 ?_
  refine q_iload_n C 1 dJ0_charAt_5068e_11 rfl rfl ?_
  refine q_callSi0 C (kJ1_charAt_3b067 w hw i h S) lmJ0_495 rfl (rest := []) rfl (Nat.le_of_ble_eq_true rfl) dJ0_charAt_5068e_12 ⟨rfl, rfl, Nat.le_of_ble_eq_true rfl, Nat.le_of_ble_eq_true rfl, Nat.le_refl 0, Nat.le_refl 0⟩ ?_
  exact q_nret C hr (qs_all w hw _ (qin_lt h)).2 (Nat.le_refl 0) (Nat.le_refl 0) dJ0_charAt_5068e_15
