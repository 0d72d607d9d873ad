/-! THE LAW'S CASES: from a case's head to the end of the round -/
def qLSW (own : String) (index : Nat) (y : MethodName) (bytes : ByteArray) (maxL : Nat) (ret : Option FieldType) (hh : List (Nat × Nat × Nat × Nat)) (n : Nat) : Prop :=
  qw (.methodLink own index y) ∧ qw (.static y) ∧ qw (.initialized y.cls) ∧ qw (.codeWith y bytes maxL ret hh) ∧ (y.cls ≠ "java/lang/invoke/MethodHandle" ∧ y.cls ≠ "java/lang/invoke/VarHandle") ∧ (parseMethodDescriptor y.desc).map (fun d => d.parameters.length) = some n
section QLW
variable {g : qG} {nL : Nat} {p : Program} {l : Launch} {e : Env} {R : Room} {s : State} {m : MethodId} {args : Array Value} {below : List Frame} {meth : Method} {c : Code} {cells slots : Nat} {Q : State → Prop} {S : qSt} {pc : Nat} {lv : List (Nat × Value)} {rest : List Value} {cc : ByteArray} {own : String}
theorem q_callW (C : qC g cc own nL p s m meth c) {y : MethodName} {bytes : ByteArray} {rm : Room} {maxL n mc ms index : Nat} {As st0 : List Value} {ret : Option FieldType} {hh : List (Nat × Nat × Nat × Nat)} {r0 : Int32} {S1 : qSt} (hM : Met l y [.codeWith y bytes maxL ret hh] rm (qPc g NL qT (qmem g S) As) (qQi g NL qT (qmem g S1) r0) mc ms (qA g)) (L : qLSW own index y bytes maxL ret hh n) (hn : As.length = n) (hst : st0 = As.reverse ++ rest) (hcat : (rest.map fun v => v.category).sum ≤ 8) (hdg : decode cc pc = .ok (.invokestatic index, 3)) (hrm : qRm rm R maxL cells slots mc ms) (k : qR g NL qT nL p l e R s m args below meth c (cells + mc) (slots + ms) Q (qmem g S1) (pc + 3) lv (.int r0 :: rest)) : qR g NL qT nL p l e R s m args below meth c cells slots Q (qmem g S) pc lv st0 := by
  obtain ⟨l1, l2, l4, l5, l6, l7⟩ := L
  intro H locs ls hP hh9 hS hl
  exact va_calli (vx_runSW (As := As) (rest := rest) (Ts := []) ⟨C.1, C.2.1, C.2.2.1, C.2.2.2.1, fun w h => nomatch h⟩ hM ⟨⟨hrm.1, hrm.2.1, hrm.2.2.1, hrm.2.2.2.1, fun w hw a' U hW => word_at hW (good_of_word (by rw [List.mem_singleton.mp hw]; exact l5.2)) (C.w (args := args) (by rw [List.mem_singleton.mp hw]; exact l5)), List.mem_cons_self⟩, C.w l5, C.w l4, l6, qLen l7, C.w l1, C.w l2⟩ ⟨qPc_blind _ _ _ _ _, C.at hP hh9 hS _⟩ rfl hn hl.1 hst (lv_room hcat) hdg ⟨hrm.2.2.2.2.1, hrm.2.2.2.2.2⟩) hS (fun q _ h => h) (fun q h => h) (fun r u t H1 locs1 ht hvm hw hB hz0 hk1 hS1 => by subst hw; rw [← ht] at hS1 ⊢; exact k _ _ ls hB.1 hB.2 hS1 hl)
/-- the script -/
theorem q_sld (C : qC g cc own nL p s m meth c) {b L : Nat} {xs : Nat → Int32} {i : Int32} (hX : va_X b L xs s s.heap) (hbl : b < s.heap.size) (hbA : ¬ qA g b) (hin : qin i L = true) (hdg : decode cc pc = .ok (.iaload, 1)) (k : qR g NL qT nL p l e R s m args below meth c cells slots Q (qmem g S) (pc + 1) lv (.int (xs i.toNatClampNeg) :: rest)) : qR g NL qT nL p l e R s m args below meth c cells slots Q (qmem g S) pc lv (.int i :: .ref b :: rest) :=
  fun H locs ls hP hh hS hl => va_sld C.1 C.2.1 hX hbl hbA hS (qin_vp hin) hdg (k H locs ls hP hh hS hl)
theorem q_slen (C : qC g cc own nL p s m meth c) {b L : Nat} {xs : Nat → Int32} (hX : va_X b L xs s s.heap) (hbl : b < s.heap.size) (hbA : ¬ qA g b) (hdg : decode cc pc = .ok (.arraylength, 1)) (k : qR g NL qT nL p l e R s m args below meth c cells slots Q (qmem g S) (pc + 1) lv (.int (Int32.ofNat L) :: rest)) : qR g NL qT nL p l e R s m args below meth c cells slots Q (qmem g S) pc lv (.ref b :: rest) :=
  fun H locs ls hP hh hS hl => va_slen C.1 C.2.1 hX hbl hbA hS hdg (k H locs ls hP hh hS hl)
end QLW
theorem lwL_98 : qLSW RL 98 yL_append cL_append 4 (some .int) [(0, 9, 12, 13), (0, 9, 15, 15)] 3 := ⟨(qwi 495 (by decide +kernel) (by decide +kernel)), (qwi 496 (by decide +kernel) (by decide +kernel)), (qwi 45 (by decide +kernel) (by decide +kernel)), (qwi 497 (by decide +kernel) (by decide +kernel)), ⟨by decide +kernel, by decide +kernel⟩, by decide +kernel⟩
theorem lwL_103 : qLV RL 103 yX8_append cX8_append 2 (some .int) 1 := ⟨(qwi 1004 (by decide +kernel) (by decide +kernel)), (qwi 1005 (by decide +kernel) (by decide +kernel)), (qwi 1006 (by decide +kernel) (by decide +kernel)), (qwi 54 (by decide +kernel) (by decide +kernel)), (qwi 1007 (by decide +kernel) (by decide +kernel)), ⟨by decide +kernel, by decide +kernel⟩, by decide +kernel⟩
theorem lwL_104 : qLV RL 104 yX8_thrown cX8_thrown 1 (some .int) 0 := ⟨(qwi 1000 (by decide +kernel) (by decide +kernel)), (qwi 1001 (by decide +kernel) (by decide +kernel)), (qwi 1002 (by decide +kernel) (by decide +kernel)), (qwi 54 (by decide +kernel) (by decide +kernel)), (qwi 1003 (by decide +kernel) (by decide +kernel)), ⟨by decide +kernel, by decide +kernel⟩, by decide +kernel⟩
theorem lwL_107 : qLV RL 107 yX7_clearText cX7_clearText 2 (some .int) 0 := ⟨(qwi 260 (by decide +kernel) (by decide +kernel)), (qwi 261 (by decide +kernel) (by decide +kernel)), (qwi 262 (by decide +kernel) (by decide +kernel)), (qwi 46 (by decide +kernel) (by decide +kernel)), (qwi 263 (by decide +kernel) (by decide +kernel)), ⟨by decide +kernel, by decide +kernel⟩, by decide +kernel⟩
theorem lwL_110 : qLV RL 110 yX8_clearText cX8_clearText 2 (some .int) 0 := ⟨(qwi 1016 (by decide +kernel) (by decide +kernel)), (qwi 1017 (by decide +kernel) (by decide +kernel)), (qwi 1018 (by decide +kernel) (by decide +kernel)), (qwi 54 (by decide +kernel) (by decide +kernel)), (qwi 1019 (by decide +kernel) (by decide +kernel)), ⟨by decide +kernel, by decide +kernel⟩, by decide +kernel⟩
theorem lwL_111 : qLV RL 111 yX7_errorPosition cX7_errorPosition 2 (some .int) 1 := ⟨(qwi 264 (by decide +kernel) (by decide +kernel)), (qwi 265 (by decide +kernel) (by decide +kernel)), (qwi 266 (by decide +kernel) (by decide +kernel)), (qwi 46 (by decide +kernel) (by decide +kernel)), (qwi 267 (by decide +kernel) (by decide +kernel)), ⟨by decide +kernel, by decide +kernel⟩, by decide +kernel⟩
theorem lwL_115 : qLV RL 115 yX8_errorPosition cX8_errorPosition 3 (some .int) 1 := ⟨(qwi 1020 (by decide +kernel) (by decide +kernel)), (qwi 1021 (by decide +kernel) (by decide +kernel)), (qwi 1022 (by decide +kernel) (by decide +kernel)), (qwi 54 (by decide +kernel) (by decide +kernel)), (qwi 1023 (by decide +kernel) (by decide +kernel)), ⟨by decide +kernel, by decide +kernel⟩, by decide +kernel⟩
theorem lwL_116 : qLSW RL 116 yL_load cL_load 3 (some .int) [(0, 8, 11, 15)] 2 := ⟨(qwi 591 (by decide +kernel) (by decide +kernel)), (qwi 592 (by decide +kernel) (by decide +kernel)), (qwi 45 (by decide +kernel) (by decide +kernel)), (qwi 593 (by decide +kernel) (by decide +kernel)), ⟨by decide +kernel, by decide +kernel⟩, by decide +kernel⟩
theorem lwL_119 : qLV RL 119 yX8_load cX8_load 1 (some .int) 0 := ⟨(qwi 1065 (by decide +kernel) (by decide +kernel)), (qwi 1066 (by decide +kernel) (by decide +kernel)), (qwi 1067 (by decide +kernel) (by decide +kernel)), (qwi 54 (by decide +kernel) (by decide +kernel)), (qwi 1068 (by decide +kernel) (by decide +kernel)), ⟨by decide +kernel, by decide +kernel⟩, by decide +kernel⟩
theorem lwL_120 : qLSW RL 120 yL_about cL_about 4 (some .int) [(0, 9, 12, 13)] 3 := ⟨(qwi 607 (by decide +kernel) (by decide +kernel)), (qwi 608 (by decide +kernel) (by decide +kernel)), (qwi 45 (by decide +kernel) (by decide +kernel)), (qwi 609 (by decide +kernel) (by decide +kernel)), ⟨by decide +kernel, by decide +kernel⟩, by decide +kernel⟩
theorem lwL_122 : qLV RL 122 yX8_about cX8_about 5 (some .int) 1 := ⟨(qwi 1076 (by decide +kernel) (by decide +kernel)), (qwi 1077 (by decide +kernel) (by decide +kernel)), (qwi 1078 (by decide +kernel) (by decide +kernel)), (qwi 54 (by decide +kernel) (by decide +kernel)), (qwi 1079 (by decide +kernel) (by decide +kernel)), ⟨by decide +kernel, by decide +kernel⟩, by decide +kernel⟩
theorem lwL_123 : qLSW RL 123 yL_street cL_street 5 (some .int) [(0, 10, 13, 28), (0, 10, 17, 13)] 4 := ⟨(qwi 627 (by decide +kernel) (by decide +kernel)), (qwi 628 (by decide +kernel) (by decide +kernel)), (qwi 45 (by decide +kernel) (by decide +kernel)), (qwi 629 (by decide +kernel) (by decide +kernel)), ⟨by decide +kernel, by decide +kernel⟩, by decide +kernel⟩
theorem lwL_126 : qLV RL 126 yX8_street cX8_street 5 (some .int) 2 := ⟨(qwi 1109 (by decide +kernel) (by decide +kernel)), (qwi 1110 (by decide +kernel) (by decide +kernel)), (qwi 1111 (by decide +kernel) (by decide +kernel)), (qwi 54 (by decide +kernel) (by decide +kernel)), (qwi 1112 (by decide +kernel) (by decide +kernel)), ⟨by decide +kernel, by decide +kernel⟩, by decide +kernel⟩
theorem lwL_127 : qLSW RL 127 yL_crossing cL_crossing 5 (some .int) [(0, 10, 13, 28), (0, 10, 17, 13)] 4 := ⟨(qwi 657 (by decide +kernel) (by decide +kernel)), (qwi 658 (by decide +kernel) (by decide +kernel)), (qwi 45 (by decide +kernel) (by decide +kernel)), (qwi 659 (by decide +kernel) (by decide +kernel)), ⟨by decide +kernel, by decide +kernel⟩, by decide +kernel⟩
theorem lwL_129 : qLV RL 129 yX8_crossing cX8_crossing 3 (some .int) 2 := ⟨(qwi 1125 (by decide +kernel) (by decide +kernel)), (qwi 1126 (by decide +kernel) (by decide +kernel)), (qwi 1127 (by decide +kernel) (by decide +kernel)), (qwi 54 (by decide +kernel) (by decide +kernel)), (qwi 1128 (by decide +kernel) (by decide +kernel)), ⟨by decide +kernel, by decide +kernel⟩, by decide +kernel⟩
theorem lwL_130 : qLSW RL 130 yL_between cL_between 5 (some .int) [(0, 10, 13, 28)] 4 := ⟨(qwi 677 (by decide +kernel) (by decide +kernel)), (qwi 678 (by decide +kernel) (by decide +kernel)), (qwi 45 (by decide +kernel) (by decide +kernel)), (qwi 679 (by decide +kernel) (by decide +kernel)), ⟨by decide +kernel, by decide +kernel⟩, by decide +kernel⟩
theorem lwL_132 : qLV RL 132 yX8_between cX8_between 3 (some .int) 2 := ⟨(qwi 1133 (by decide +kernel) (by decide +kernel)), (qwi 1134 (by decide +kernel) (by decide +kernel)), (qwi 1135 (by decide +kernel) (by decide +kernel)), (qwi 54 (by decide +kernel) (by decide +kernel)), (qwi 1136 (by decide +kernel) (by decide +kernel)), ⟨by decide +kernel, by decide +kernel⟩, by decide +kernel⟩
theorem lwL_133 : qLSW RL 133 yL_wayAt cL_wayAt 4 (some .int) [(0, 9, 12, 13)] 3 := ⟨(qwi 685 (by decide +kernel) (by decide +kernel)), (qwi 686 (by decide +kernel) (by decide +kernel)), (qwi 45 (by decide +kernel) (by decide +kernel)), (qwi 687 (by decide +kernel) (by decide +kernel)), ⟨by decide +kernel, by decide +kernel⟩, by decide +kernel⟩
theorem lwL_135 : qLV RL 135 yX8_wayAt cX8_wayAt 2 (some .int) 1 := ⟨(qwi 1137 (by decide +kernel) (by decide +kernel)), (qwi 1138 (by decide +kernel) (by decide +kernel)), (qwi 1139 (by decide +kernel) (by decide +kernel)), (qwi 54 (by decide +kernel) (by decide +kernel)), (qwi 1140 (by decide +kernel) (by decide +kernel)), ⟨by decide +kernel, by decide +kernel⟩, by decide +kernel⟩
theorem lwL_136 : qLSW RL 136 yL_addCrossing cL_addCrossing 3 (some .int) [(0, 8, 11, 15)] 2 := ⟨(qwi 700 (by decide +kernel) (by decide +kernel)), (qwi 701 (by decide +kernel) (by decide +kernel)), (qwi 45 (by decide +kernel) (by decide +kernel)), (qwi 702 (by decide +kernel) (by decide +kernel)), ⟨by decide +kernel, by decide +kernel⟩, by decide +kernel⟩
theorem lwL_138 : qLV RL 138 yX8_addCrossing cX8_addCrossing 1 (some .int) 0 := ⟨(qwi 1145 (by decide +kernel) (by decide +kernel)), (qwi 1146 (by decide +kernel) (by decide +kernel)), (qwi 1147 (by decide +kernel) (by decide +kernel)), (qwi 54 (by decide +kernel) (by decide +kernel)), (qwi 1148 (by decide +kernel) (by decide +kernel)), ⟨by decide +kernel, by decide +kernel⟩, by decide +kernel⟩
theorem lwL_139 : qLSW RL 139 yL_addStreet cL_addStreet 6 (some .int) [(0, 12, 15, 28), (0, 12, 19, 13), (0, 12, 23, 15)] 5 := ⟨(qwi 726 (by decide +kernel) (by decide +kernel)), (qwi 727 (by decide +kernel) (by decide +kernel)), (qwi 45 (by decide +kernel) (by decide +kernel)), (qwi 728 (by decide +kernel) (by decide +kernel)), ⟨by decide +kernel, by decide +kernel⟩, by decide +kernel⟩
theorem lwL_142 : qLV RL 142 yX8_addStreet cX8_addStreet 4 (some .int) 3 := ⟨(qwi 1153 (by decide +kernel) (by decide +kernel)), (qwi 1154 (by decide +kernel) (by decide +kernel)), (qwi 1155 (by decide +kernel) (by decide +kernel)), (qwi 54 (by decide +kernel) (by decide +kernel)), (qwi 1156 (by decide +kernel) (by decide +kernel)), ⟨by decide +kernel, by decide +kernel⟩, by decide +kernel⟩
theorem lwL_143 : qLSW RL 143 yL_removeStreet cL_removeStreet 4 (some .int) [(0, 9, 12, 28)] 3 := ⟨(qwi 734 (by decide +kernel) (by decide +kernel)), (qwi 735 (by decide +kernel) (by decide +kernel)), (qwi 45 (by decide +kernel) (by decide +kernel)), (qwi 736 (by decide +kernel) (by decide +kernel)), ⟨by decide +kernel, by decide +kernel⟩, by decide +kernel⟩
theorem lwL_145 : qLV RL 145 yX8_removeStreet cX8_removeStreet 2 (some .int) 1 := ⟨(qwi 1161 (by decide +kernel) (by decide +kernel)), (qwi 1162 (by decide +kernel) (by decide +kernel)), (qwi 1163 (by decide +kernel) (by decide +kernel)), (qwi 54 (by decide +kernel) (by decide +kernel)), (qwi 1164 (by decide +kernel) (by decide +kernel)), ⟨by decide +kernel, by decide +kernel⟩, by decide +kernel⟩
theorem lwL_146 : qLSW RL 146 yL_setLength cL_setLength 5 (some .int) [(0, 10, 13, 28), (0, 10, 17, 13)] 4 := ⟨(qwi 745 (by decide +kernel) (by decide +kernel)), (qwi 746 (by decide +kernel) (by decide +kernel)), (qwi 45 (by decide +kernel) (by decide +kernel)), (qwi 747 (by decide +kernel) (by decide +kernel)), ⟨by decide +kernel, by decide +kernel⟩, by decide +kernel⟩
theorem lwL_148 : qLV RL 148 yX8_setLength cX8_setLength 4 (some .int) 2 := ⟨(qwi 1168 (by decide +kernel) (by decide +kernel)), (qwi 1169 (by decide +kernel) (by decide +kernel)), (qwi 1170 (by decide +kernel) (by decide +kernel)), (qwi 54 (by decide +kernel) (by decide +kernel)), (qwi 1171 (by decide +kernel) (by decide +kernel)), ⟨by decide +kernel, by decide +kernel⟩, by decide +kernel⟩
theorem lwL_149 : qLSW RL 149 yL_close cL_close 5 (some .int) [(0, 10, 13, 28)] 4 := ⟨(qwi 760 (by decide +kernel) (by decide +kernel)), (qwi 761 (by decide +kernel) (by decide +kernel)), (qwi 45 (by decide +kernel) (by decide +kernel)), (qwi 762 (by decide +kernel) (by decide +kernel)), ⟨by decide +kernel, by decide +kernel⟩, by decide +kernel⟩
theorem lwL_152 : qLV RL 152 yX8_close cX8_close 3 (some .int) 2 := ⟨(qwi 1172 (by decide +kernel) (by decide +kernel)), (qwi 1173 (by decide +kernel) (by decide +kernel)), (qwi 1174 (by decide +kernel) (by decide +kernel)), (qwi 54 (by decide +kernel) (by decide +kernel)), (qwi 1175 (by decide +kernel) (by decide +kernel)), ⟨by decide +kernel, by decide +kernel⟩, by decide +kernel⟩
theorem lwL_153 : qLSW RL 153 yL_setEnds cL_setEnds 5 (some .int) [(0, 10, 13, 28), (0, 10, 17, 13)] 4 := ⟨(qwi 767 (by decide +kernel) (by decide +kernel)), (qwi 768 (by decide +kernel) (by decide +kernel)), (qwi 45 (by decide +kernel) (by decide +kernel)), (qwi 769 (by decide +kernel) (by decide +kernel)), ⟨by decide +kernel, by decide +kernel⟩, by decide +kernel⟩
theorem lwL_155 : qLV RL 155 yX8_setEnds cX8_setEnds 3 (some .int) 2 := ⟨(qwi 1176 (by decide +kernel) (by decide +kernel)), (qwi 1177 (by decide +kernel) (by decide +kernel)), (qwi 1178 (by decide +kernel) (by decide +kernel)), (qwi 54 (by decide +kernel) (by decide +kernel)), (qwi 1179 (by decide +kernel) (by decide +kernel)), ⟨by decide +kernel, by decide +kernel⟩, by decide +kernel⟩
theorem lwL_156 : qLSW RL 156 yL_runPlan cL_runPlan 3 (some .int) [(0, 8, 11, 15)] 2 := ⟨(qwi 778 (by decide +kernel) (by decide +kernel)), (qwi 779 (by decide +kernel) (by decide +kernel)), (qwi 45 (by decide +kernel) (by decide +kernel)), (qwi 780 (by decide +kernel) (by decide +kernel)), ⟨by decide +kernel, by decide +kernel⟩, by decide +kernel⟩
theorem lwL_158 : qLV RL 158 yX8_runPlan cX8_runPlan 3 (some .int) 0 := ⟨(qwi 1180 (by decide +kernel) (by decide +kernel)), (qwi 1181 (by decide +kernel) (by decide +kernel)), (qwi 1182 (by decide +kernel) (by decide +kernel)), (qwi 54 (by decide +kernel) (by decide +kernel)), (qwi 1183 (by decide +kernel) (by decide +kernel)), ⟨by decide +kernel, by decide +kernel⟩, by decide +kernel⟩
theorem lwL_159 : qLSW RL 159 yL_undo cL_undo 3 (some .int) [(0, 8, 11, 15)] 2 := ⟨(qwi 790 (by decide +kernel) (by decide +kernel)), (qwi 791 (by decide +kernel) (by decide +kernel)), (qwi 45 (by decide +kernel) (by decide +kernel)), (qwi 792 (by decide +kernel) (by decide +kernel)), ⟨by decide +kernel, by decide +kernel⟩, by decide +kernel⟩
theorem lwL_161 : qLV RL 161 yX8_undo cX8_undo 1 (some .int) 0 := ⟨(qwi 1188 (by decide +kernel) (by decide +kernel)), (qwi 1189 (by decide +kernel) (by decide +kernel)), (qwi 1190 (by decide +kernel) (by decide +kernel)), (qwi 54 (by decide +kernel) (by decide +kernel)), (qwi 1191 (by decide +kernel) (by decide +kernel)), ⟨by decide +kernel, by decide +kernel⟩, by decide +kernel⟩
theorem lwL_162 : qLSW RL 162 yL_without cL_without 4 (some .int) [(0, 9, 12, 28)] 3 := ⟨(qwi 802 (by decide +kernel) (by decide +kernel)), (qwi 803 (by decide +kernel) (by decide +kernel)), (qwi 45 (by decide +kernel) (by decide +kernel)), (qwi 804 (by decide +kernel) (by decide +kernel)), ⟨by decide +kernel, by decide +kernel⟩, by decide +kernel⟩
theorem lwL_164 : qLV RL 164 yX8_without cX8_without 2 (some .int) 1 := ⟨(qwi 1192 (by decide +kernel) (by decide +kernel)), (qwi 1193 (by decide +kernel) (by decide +kernel)), (qwi 1194 (by decide +kernel) (by decide +kernel)), (qwi 54 (by decide +kernel) (by decide +kernel)), (qwi 1195 (by decide +kernel) (by decide +kernel)), ⟨by decide +kernel, by decide +kernel⟩, by decide +kernel⟩
theorem lwL_165 : qLSW RL 165 yL_withoutAt cL_withoutAt 5 (some .int) [(0, 10, 13, 28), (0, 10, 17, 13)] 4 := ⟨(qwi 809 (by decide +kernel) (by decide +kernel)), (qwi 810 (by decide +kernel) (by decide +kernel)), (qwi 45 (by decide +kernel) (by decide +kernel)), (qwi 811 (by decide +kernel) (by decide +kernel)), ⟨by decide +kernel, by decide +kernel⟩, by decide +kernel⟩
theorem lwL_167 : qLV RL 167 yX8_withoutAt cX8_withoutAt 3 (some .int) 2 := ⟨(qwi 1196 (by decide +kernel) (by decide +kernel)), (qwi 1197 (by decide +kernel) (by decide +kernel)), (qwi 1198 (by decide +kernel) (by decide +kernel)), (qwi 54 (by decide +kernel) (by decide +kernel)), (qwi 1199 (by decide +kernel) (by decide +kernel)), ⟨by decide +kernel, by decide +kernel⟩, by decide +kernel⟩
theorem lwL_168 : qLV RL 168 yX7_dearest cX7_dearest 5 (some .int) 0 := ⟨(qwi 427 (by decide +kernel) (by decide +kernel)), (qwi 428 (by decide +kernel) (by decide +kernel)), (qwi 429 (by decide +kernel) (by decide +kernel)), (qwi 46 (by decide +kernel) (by decide +kernel)), (qwi 430 (by decide +kernel) (by decide +kernel)), ⟨by decide +kernel, by decide +kernel⟩, by decide +kernel⟩
theorem lwL_171 : qLV RL 171 yX8_dearest cX8_dearest 6 (some .int) 0 := ⟨(qwi 1200 (by decide +kernel) (by decide +kernel)), (qwi 1201 (by decide +kernel) (by decide +kernel)), (qwi 1202 (by decide +kernel) (by decide +kernel)), (qwi 54 (by decide +kernel) (by decide +kernel)), (qwi 1203 (by decide +kernel) (by decide +kernel)), ⟨by decide +kernel, by decide +kernel⟩, by decide +kernel⟩
theorem lwL_172 : qLSW RL 172 yL_upTo cL_upTo 4 (some .int) [(0, 9, 12, 28)] 3 := ⟨(qwi 816 (by decide +kernel) (by decide +kernel)), (qwi 817 (by decide +kernel) (by decide +kernel)), (qwi 45 (by decide +kernel) (by decide +kernel)), (qwi 818 (by decide +kernel) (by decide +kernel)), ⟨by decide +kernel, by decide +kernel⟩, by decide +kernel⟩
theorem lwL_174 : qLV RL 174 yX8_upTo cX8_upTo 3 (some .int) 1 := ⟨(qwi 1204 (by decide +kernel) (by decide +kernel)), (qwi 1205 (by decide +kernel) (by decide +kernel)), (qwi 1206 (by decide +kernel) (by decide +kernel)), (qwi 54 (by decide +kernel) (by decide +kernel)), (qwi 1207 (by decide +kernel) (by decide +kernel)), ⟨by decide +kernel, by decide +kernel⟩, by decide +kernel⟩
theorem lwL_175 : qLSW RL 175 yL_saves cL_saves 6 (some .int) [(0, 12, 15, 28), (0, 12, 19, 13)] 5 := ⟨(qwi 831 (by decide +kernel) (by decide +kernel)), (qwi 832 (by decide +kernel) (by decide +kernel)), (qwi 45 (by decide +kernel) (by decide +kernel)), (qwi 833 (by decide +kernel) (by decide +kernel)), ⟨by decide +kernel, by decide +kernel⟩, by decide +kernel⟩
theorem lwL_177 : qLV RL 177 yX8_saves cX8_saves 6 (some .int) 3 := ⟨(qwi 1208 (by decide +kernel) (by decide +kernel)), (qwi 1209 (by decide +kernel) (by decide +kernel)), (qwi 1210 (by decide +kernel) (by decide +kernel)), (qwi 54 (by decide +kernel) (by decide +kernel)), (qwi 1211 (by decide +kernel) (by decide +kernel)), ⟨by decide +kernel, by decide +kernel⟩, by decide +kernel⟩
theorem lwL_178 : qLSW RL 178 yL_ways cL_ways 4 (some .int) [(0, 9, 12, 13)] 3 := ⟨(qwi 841 (by decide +kernel) (by decide +kernel)), (qwi 842 (by decide +kernel) (by decide +kernel)), (qwi 45 (by decide +kernel) (by decide +kernel)), (qwi 843 (by decide +kernel) (by decide +kernel)), ⟨by decide +kernel, by decide +kernel⟩, by decide +kernel⟩
theorem lwL_180 : qLV RL 180 yX8_ways cX8_ways 6 (some .int) 1 := ⟨(qwi 1212 (by decide +kernel) (by decide +kernel)), (qwi 1213 (by decide +kernel) (by decide +kernel)), (qwi 1214 (by decide +kernel) (by decide +kernel)), (qwi 54 (by decide +kernel) (by decide +kernel)), (qwi 1215 (by decide +kernel) (by decide +kernel)), ⟨by decide +kernel, by decide +kernel⟩, by decide +kernel⟩
theorem lwL_181 : qLV RL 181 yX7_middle cX7_middle 5 (some .int) 0 := ⟨(qwi 485 (by decide +kernel) (by decide +kernel)), (qwi 486 (by decide +kernel) (by decide +kernel)), (qwi 487 (by decide +kernel) (by decide +kernel)), (qwi 46 (by decide +kernel) (by decide +kernel)), (qwi 488 (by decide +kernel) (by decide +kernel)), ⟨by decide +kernel, by decide +kernel⟩, by decide +kernel⟩
theorem lwL_184 : qLV RL 184 yX8_middle cX8_middle 7 (some .int) 0 := ⟨(qwi 1217 (by decide +kernel) (by decide +kernel)), (qwi 1218 (by decide +kernel) (by decide +kernel)), (qwi 1219 (by decide +kernel) (by decide +kernel)), (qwi 54 (by decide +kernel) (by decide +kernel)), (qwi 1220 (by decide +kernel) (by decide +kernel)), ⟨by decide +kernel, by decide +kernel⟩, by decide +kernel⟩
theorem lwL_187 : qLSW RL 187 yL_runScript cL_runScript 6 (some .int) [(0, 11, 14, 13)] 4 := ⟨(qwi 853 (by decide +kernel) (by decide +kernel)), (qwi 854 (by decide +kernel) (by decide +kernel)), (qwi 45 (by decide +kernel) (by decide +kernel)), (qwi 855 (by decide +kernel) (by decide +kernel)), ⟨by decide +kernel, by decide +kernel⟩, by decide +kernel⟩
theorem lwL_190 : qLV RL 190 yX8_runScript cX8_runScript 8 (some .int) 2 := ⟨(qwi 1221 (by decide +kernel) (by decide +kernel)), (qwi 1222 (by decide +kernel) (by decide +kernel)), (qwi 1223 (by decide +kernel) (by decide +kernel)), (qwi 54 (by decide +kernel) (by decide +kernel)), (qwi 1224 (by decide +kernel) (by decide +kernel)), ⟨by decide +kernel, by decide +kernel⟩, by decide +kernel⟩
theorem lwL_191 : qLSW RL 191 yL_simulate cL_simulate 6 (some .int) [(0, 11, 14, 13)] 4 := ⟨(qwi 881 (by decide +kernel) (by decide +kernel)), (qwi 882 (by decide +kernel) (by decide +kernel)), (qwi 45 (by decide +kernel) (by decide +kernel)), (qwi 883 (by decide +kernel) (by decide +kernel)), ⟨by decide +kernel, by decide +kernel⟩, by decide +kernel⟩
theorem lwL_194 : qLV RL 194 yX8_simulate cX8_simulate 10 (some .int) 2 := ⟨(qwi 1230 (by decide +kernel) (by decide +kernel)), (qwi 1231 (by decide +kernel) (by decide +kernel)), (qwi 1232 (by decide +kernel) (by decide +kernel)), (qwi 54 (by decide +kernel) (by decide +kernel)), (qwi 1233 (by decide +kernel) (by decide +kernel)), ⟨by decide +kernel, by decide +kernel⟩, by decide +kernel⟩
theorem lwL_195 : qLSW RL 195 yL_save cL_save 4 (some .int) [(0, 9, 12, 28)] 3 := ⟨(qwi 892 (by decide +kernel) (by decide +kernel)), (qwi 893 (by decide +kernel) (by decide +kernel)), (qwi 45 (by decide +kernel) (by decide +kernel)), (qwi 894 (by decide +kernel) (by decide +kernel)), ⟨by decide +kernel, by decide +kernel⟩, by decide +kernel⟩
theorem lwL_197 : qLV RL 197 yX8_save cX8_save 2 (some .int) 1 := ⟨(qwi 1238 (by decide +kernel) (by decide +kernel)), (qwi 1239 (by decide +kernel) (by decide +kernel)), (qwi 1240 (by decide +kernel) (by decide +kernel)), (qwi 54 (by decide +kernel) (by decide +kernel)), (qwi 1241 (by decide +kernel) (by decide +kernel)), ⟨by decide +kernel, by decide +kernel⟩, by decide +kernel⟩
theorem lwL_198 : qLSW RL 198 yL_restore cL_restore 4 (some .int) [(0, 9, 12, 28), (0, 9, 15, 15)] 3 := ⟨(qwi 908 (by decide +kernel) (by decide +kernel)), (qwi 909 (by decide +kernel) (by decide +kernel)), (qwi 45 (by decide +kernel) (by decide +kernel)), (qwi 910 (by decide +kernel) (by decide +kernel)), ⟨by decide +kernel, by decide +kernel⟩, by decide +kernel⟩
theorem lwL_200 : qLV RL 200 yX8_restore cX8_restore 2 (some .int) 1 := ⟨(qwi 1242 (by decide +kernel) (by decide +kernel)), (qwi 1243 (by decide +kernel) (by decide +kernel)), (qwi 1244 (by decide +kernel) (by decide +kernel)), (qwi 54 (by decide +kernel) (by decide +kernel)), (qwi 1245 (by decide +kernel) (by decide +kernel)), ⟨by decide +kernel, by decide +kernel⟩, by decide +kernel⟩
section
variable {l : Launch} {g : qG} {p : Program} {e : Env} {s : State} {m : MethodId} {args : Array Value} {below : List Frame} {meth : Method} {c : Code} {b L : Nat} {xs : Nat → Int32}
def CL_164 (n : Nat) (xs : Nat → Int32) (L : Nat) (v4 : Int32) (S : qSt) : Option qSt := if qin (v4 + 1) L = true then ob2 (FL_append (xs (v4 + 1).toNatClampNeg) S) fun r3 S4 => ob2 (F8_append (xs (v4 + 1).toNatClampNeg) S4) fun r6 S7 => if (F8_thrown S7) = r3 then (if ¬ r3 = 0 then (some S7) else (if (lg_cmp ((S7 126 (0 : Int32).toNatClampNeg).toInt64) r6.toInt64) = 0 then (some S7) else (none))) else (none) else none
set_option maxRecDepth 100000 in
set_option maxHeartbeats 4000000 in
theorem WL_164 {S2 : qSt} {Q : State → Prop} {c0 s0 : Nat} (C : qC g cL_law RL 7 p s m meth c) (hl9 : l.stackTraces = false) (hX : va_X b L xs s s.heap) (hbl : b < s.heap.size) (hbA : ¬ qA g b) (hc0 : c0 + 2 ≤ 601024) (hs0 : s0 + 12 ≤ 7293034) (n : Nat) (v4 : Int32) (S : qSt) (h : CL_164 n xs L v4 S = some S2) (hk : qR g NL qT 7 p l e room_1 s m args below meth c (c0 + 2) (s0 + 12) Q (qmem g S2) 1776 [(0, .ref b), (1, .ref (qa g 0)), (2, .ref (qa g 111)), (3, .ref (qa g 126)), (4, .int v4)] []) : qR g NL qT 7 p l e room_1 s m args below meth c c0 s0 Q (qmem g S) 164 [(0, .ref b), (1, .ref (qa g 0)), (2, .ref (qa g 111)), (3, .ref (qa g 126)), (4, .int v4)] [] := by
  unfold CL_164 at h
  refine q_aload_n C 1 dL_law_164 rfl rfl ?_
  refine q_aload_n C 0 dL_law_165 rfl rfl ?_
  refine q_iload C 4 dL_law_166 rfl ?_
  refine q_iconst (v := 1) C dL_law_168 (by decide) ?_
  refine q_iadd C dL_law_169 ?_
  obtain ⟨hb1, h⟩ := q_if h
  refine q_sld C hX hbl hbA hb1 dL_law_170 ?_
  refine q_aload_n C 3 dL_law_171 rfl rfl ?_
  obtain ⟨r3, S4, hc2, h⟩ := ob2_e h
  refine q_callW C (kL_append hl9 (xs (v4 + 1).toNatClampNeg) S hc2) lwL_98 rfl (rest := []) rfl (Nat.le_of_ble_eq_true rfl) dL_law_172 ⟨rfl, rfl, Nat.le_of_ble_eq_true rfl, Nat.le_of_ble_eq_true rfl, (by omega : _ ≤ 601024), (by omega : _ ≤ 7293034)⟩ ?_
  refine q_istore C (lv' := [(5, .int r3), (0, .ref b), (1, .ref (qa g 0)), (2, .ref (qa g 111)), (3, .ref (qa g 126)), (4, .int v4)]) dL_law_175 (by decide) rfl ?_
  refine q_norm [1, 2, 3, 4, 5, 0] rfl ?_
  refine q_aload_n C 2 dL_law_177 rfl rfl ?_
  refine q_aload_n C 0 dL_law_178 rfl rfl ?_
  refine q_iload C 4 dL_law_179 rfl ?_
  refine q_iconst (v := 1) C dL_law_181 (by decide) ?_
  refine q_iadd C dL_law_182 ?_
  refine q_sld C hX hbl hbA hb1 dL_law_183 ?_
  obtain ⟨r6, S7, hc5, h⟩ := ob2_e h
  refine q_callVi0 C ltp_111 (qmem_o kd_111 (Nat.le_of_ble_eq_true rfl)) rfl rfl (kX8_append (xs (v4 + 1).toNatClampNeg) S4 hc5) lwL_103 rfl (rest := []) rfl (Nat.le_of_ble_eq_true rfl) dL_law_184 ⟨rfl, rfl, Nat.le_of_ble_eq_true rfl, Nat.le_of_ble_eq_true rfl, (by omega : _ ≤ 601024), (by omega : _ ≤ 7293034)⟩ ?_
  refine q_istore C (lv' := [(6, .int r6), (0, .ref b), (1, .ref (qa g 0)), (2, .ref (qa g 111)), (3, .ref (qa g 126)), (4, .int v4), (5, .int r3)]) dL_law_187 (by decide) rfl ?_
  refine q_norm [1, 2, 3, 4, 5, 6, 0] rfl ?_
  refine q_aload_n C 2 dL_law_189 rfl rfl ?_
  refine q_callVi0 C ltp_111 (qmem_o kd_111 (Nat.le_of_ble_eq_true rfl)) rfl rfl (kX8_thrown S7) lwL_104 rfl (rest := []) rfl (Nat.le_of_ble_eq_true rfl) dL_law_190 ⟨rfl, rfl, Nat.le_of_ble_eq_true rfl, Nat.le_of_ble_eq_true rfl, (by omega : _ ≤ 601024), (by omega : _ ≤ 7293034)⟩ ?_
  refine q_iload C 5 dL_law_193 rfl ?_
  refine q_icmp_eq (tgt := 200) C h dL_law_195 (by decide) (fun h => ?_) (fun h => ?_)
  · refine q_iload C 5 dL_law_200 rfl ?_
    refine q_if_ne (tgt := 217) C h dL_law_202 (by decide) (fun h => ?_) (fun h => ?_)
    · refine q_goto (tgt := 1776) C dL_law_217 (by decide) ?_
      obtain rfl := Option.some.inj h
      refine q_widen (k := c0 + 2) (n := s0 + 12) (by omega) (by omega) ?_
      refine q_norm [0, 1, 2, 3, 4] rfl ?_
      exact hk
    · refine q_aload_n C 3 dL_law_205 rfl rfl ?_
      refine q_iconst (v := 0) C dL_law_206 (by decide) ?_
      refine s_lald C ltp_126 kd_126 (by decide) dL_law_207 ?_
      refine q_iload C 6 dL_law_208 rfl ?_
      refine q_i2l C dL_law_210 rfl ?_
      refine q_lcmp C dL_law_211 ?_
      refine q_if_eq (tgt := 217) C h dL_law_212 (by decide) (fun h => ?_) (fun h => ?_)
      · refine q_goto (tgt := 1776) C dL_law_217 (by decide) ?_
        obtain rfl := Option.some.inj h
        refine q_widen (k := c0 + 2) (n := s0 + 12) (by omega) (by omega) ?_
        refine q_norm [0, 1, 2, 3, 4] rfl ?_
        exact hk
      · cases h
  · cases h
def CL_220 (n : Nat) (xs : Nat → Int32) (L : Nat) (v4 : Int32) (S : qSt) : Option qSt := ob2 (F7_clearText S) fun r2 S3 => ob2 (F8_clearText S3) fun r5 S6 => if r2 = r5 then (some S6) else (none)
set_option maxRecDepth 100000 in
set_option maxHeartbeats 4000000 in
theorem WL_220 {S2 : qSt} {Q : State → Prop} {c0 s0 : Nat} (C : qC g cL_law RL 7 p s m meth c) (hl9 : l.stackTraces = false) (hX : va_X b L xs s s.heap) (hbl : b < s.heap.size) (hbA : ¬ qA g b) (hc0 : c0 + 2 ≤ 601024) (hs0 : s0 + 12 ≤ 7293034) (n : Nat) (v4 : Int32) (S : qSt) (h : CL_220 n xs L v4 S = some S2) (hk : qR g NL qT 7 p l e room_1 s m args below meth c (c0 + 2) (s0 + 12) Q (qmem g S2) 1776 [(0, .ref b), (1, .ref (qa g 0)), (2, .ref (qa g 111)), (3, .ref (qa g 126)), (4, .int v4)] []) : qR g NL qT 7 p l e room_1 s m args below meth c c0 s0 Q (qmem g S) 220 [(0, .ref b), (1, .ref (qa g 0)), (2, .ref (qa g 111)), (3, .ref (qa g 126)), (4, .int v4)] [] := by
  unfold CL_220 at h
  refine q_aload_n C 1 dL_law_220 rfl rfl ?_
  obtain ⟨r2, S3, hc1, h⟩ := ob2_e h
  refine q_callVi0 C ltp_0 (qmem_o kd_0 (Nat.le_of_ble_eq_true rfl)) rfl rfl (kX7_clearText S hc1) lwL_107 rfl (rest := []) rfl (Nat.le_of_ble_eq_true rfl) dL_law_221 ⟨rfl, rfl, Nat.le_of_ble_eq_true rfl, Nat.le_of_ble_eq_true rfl, (by omega : _ ≤ 601024), (by omega : _ ≤ 7293034)⟩ ?_
  refine q_aload_n C 2 dL_law_224 rfl rfl ?_
  obtain ⟨r5, S6, hc4, h⟩ := ob2_e h
  refine q_callVi0 C ltp_111 (qmem_o kd_111 (Nat.le_of_ble_eq_true rfl)) rfl rfl (kX8_clearText S3 hc4) lwL_110 rfl (rest := [.int r2]) rfl (Nat.le_of_ble_eq_true rfl) dL_law_225 ⟨rfl, rfl, Nat.le_of_ble_eq_true rfl, Nat.le_of_ble_eq_true rfl, (by omega : _ ≤ 601024), (by omega : _ ≤ 7293034)⟩ ?_
  refine q_icmp_eq (tgt := 1776) C h dL_law_228 (by decide) (fun h => ?_) (fun h => ?_)
  · obtain rfl := Option.some.inj h
    refine q_widen (k := c0 + 2) (n := s0 + 12) (by omega) (by omega) ?_
    exact hk
  · cases h
def CL_233 (n : Nat) (xs : Nat → Int32) (L : Nat) (v4 : Int32) (S : qSt) : Option qSt := if qin (v4 + 1) L = true then if (xs (v4 + 1).toNatClampNeg) = 0 then (ob2 (F7_errorPosition n 0 S) fun r3 S4 => if (xs (v4 + 1).toNatClampNeg) = 0 then (ob2 (F8_errorPosition n 0 S4) fun r6 S7 => if r3 = r6 then (some S7) else (none)) else (ob2 (F8_errorPosition n 1 S4) fun r9 S10 => if r3 = r9 then (some S10) else (none))) else (ob2 (F7_errorPosition n 1 S) fun r12 S13 => if (xs (v4 + 1).toNatClampNeg) = 0 then (ob2 (F8_errorPosition n 0 S13) fun r15 S16 => if r12 = r15 then (some S16) else (none)) else (ob2 (F8_errorPosition n 1 S13) fun r18 S19 => if r12 = r18 then (some S19) else (none))) else none
set_option maxRecDepth 100000 in
set_option maxHeartbeats 4000000 in
theorem WL_233 {S2 : qSt} {Q : State → Prop} {c0 s0 : Nat} (C : qC g cL_law RL 7 p s m meth c) (hl9 : l.stackTraces = false) (hX : va_X b L xs s s.heap) (hbl : b < s.heap.size) (hbA : ¬ qA g b) (hc0 : c0 + 2 ≤ 601024) (hs0 : s0 + 12 ≤ 7293034) (n : Nat) (v4 : Int32) (S : qSt) (h : CL_233 n xs L v4 S = some S2) (hk : qR g NL qT 7 p l e room_1 s m args below meth c (c0 + 2) (s0 + 12) Q (qmem g S2) 1776 [(0, .ref b), (1, .ref (qa g 0)), (2, .ref (qa g 111)), (3, .ref (qa g 126)), (4, .int v4)] []) : qR g NL qT 7 p l e room_1 s m args below meth c c0 s0 Q (qmem g S) 233 [(0, .ref b), (1, .ref (qa g 0)), (2, .ref (qa g 111)), (3, .ref (qa g 126)), (4, .int v4)] [] := by
  unfold CL_233 at h
  refine q_aload_n C 1 dL_law_233 rfl rfl ?_
  refine q_aload_n C 0 dL_law_234 rfl rfl ?_
  refine q_iload C 4 dL_law_235 rfl ?_
  refine q_iconst (v := 1) C dL_law_237 (by decide) ?_
  refine q_iadd C dL_law_238 ?_
  obtain ⟨hb1, h⟩ := q_if h
  refine q_sld C hX hbl hbA hb1 dL_law_239 ?_
  refine q_if_eq (tgt := 247) C h dL_law_240 (by decide) (fun h => ?_) (fun h => ?_)
  · refine q_iconst (v := 0) C dL_law_247 (by decide) ?_
    obtain ⟨r3, S4, hc2, h⟩ := ob2_e h
    refine q_callVi0 C ltp_0 (qmem_o kd_0 (Nat.le_of_ble_eq_true rfl)) rfl rfl (kX7_errorPosition n 0 S hc2) lwL_111 rfl (rest := []) rfl (Nat.le_of_ble_eq_true rfl) dL_law_248 ⟨rfl, rfl, Nat.le_of_ble_eq_true rfl, Nat.le_of_ble_eq_true rfl, (by omega : _ ≤ 601024), (by omega : _ ≤ 7293034)⟩ ?_
    refine q_aload_n C 2 dL_law_251 rfl rfl ?_
    refine q_aload_n C 0 dL_law_252 rfl rfl ?_
    refine q_iload C 4 dL_law_253 rfl ?_
    refine q_iconst (v := 1) C dL_law_255 (by decide) ?_
    refine q_iadd C dL_law_256 ?_
    refine q_sld C hX hbl hbA hb1 dL_law_257 ?_
    refine q_if_eq (tgt := 265) C h dL_law_258 (by decide) (fun h => ?_) (fun h => ?_)
    · refine q_iconst (v := 0) C dL_law_265 (by decide) ?_
      obtain ⟨r6, S7, hc5, h⟩ := ob2_e h
      refine q_callVi0 C ltp_111 (qmem_o kd_111 (Nat.le_of_ble_eq_true rfl)) rfl rfl (kX8_errorPosition n 0 S4 hc5) lwL_115 rfl (rest := [.int r3]) rfl (Nat.le_of_ble_eq_true rfl) dL_law_266 ⟨rfl, rfl, Nat.le_of_ble_eq_true rfl, Nat.le_of_ble_eq_true rfl, (by omega : _ ≤ 601024), (by omega : _ ≤ 7293034)⟩ ?_
      refine q_icmp_eq (tgt := 1776) C h dL_law_269 (by decide) (fun h => ?_) (fun h => ?_)
      · obtain rfl := Option.some.inj h
        refine q_widen (k := c0 + 2) (n := s0 + 12) (by omega) (by omega) ?_
        exact hk
      · cases h
    · refine q_iconst (v := 1) C dL_law_261 (by decide) ?_
      refine q_goto (tgt := 266) C dL_law_262 (by decide) ?_
      obtain ⟨r9, S10, hc8, h⟩ := ob2_e h
      refine q_callVi0 C ltp_111 (qmem_o kd_111 (Nat.le_of_ble_eq_true rfl)) rfl rfl (kX8_errorPosition n 1 S4 hc8) lwL_115 rfl (rest := [.int r3]) rfl (Nat.le_of_ble_eq_true rfl) dL_law_266 ⟨rfl, rfl, Nat.le_of_ble_eq_true rfl, Nat.le_of_ble_eq_true rfl, (by omega : _ ≤ 601024), (by omega : _ ≤ 7293034)⟩ ?_
      refine q_icmp_eq (tgt := 1776) C h dL_law_269 (by decide) (fun h => ?_) (fun h => ?_)
      · obtain rfl := Option.some.inj h
        refine q_widen (k := c0 + 2) (n := s0 + 12) (by omega) (by omega) ?_
        exact hk
      · cases h
  · refine q_iconst (v := 1) C dL_law_243 (by decide) ?_
    refine q_goto (tgt := 248) C dL_law_244 (by decide) ?_
    obtain ⟨r12, S13, hc11, h⟩ := ob2_e h
    refine q_callVi0 C ltp_0 (qmem_o kd_0 (Nat.le_of_ble_eq_true rfl)) rfl rfl (kX7_errorPosition n 1 S hc11) lwL_111 rfl (rest := []) rfl (Nat.le_of_ble_eq_true rfl) dL_law_248 ⟨rfl, rfl, Nat.le_of_ble_eq_true rfl, Nat.le_of_ble_eq_true rfl, (by omega : _ ≤ 601024), (by omega : _ ≤ 7293034)⟩ ?_
    refine q_aload_n C 2 dL_law_251 rfl rfl ?_
    refine q_aload_n C 0 dL_law_252 rfl rfl ?_
    refine q_iload C 4 dL_law_253 rfl ?_
    refine q_iconst (v := 1) C dL_law_255 (by decide) ?_
    refine q_iadd C dL_law_256 ?_
    refine q_sld C hX hbl hbA hb1 dL_law_257 ?_
    refine q_if_eq (tgt := 265) C h dL_law_258 (by decide) (fun h => ?_) (fun h => ?_)
    · refine q_iconst (v := 0) C dL_law_265 (by decide) ?_
      obtain ⟨r15, S16, hc14, h⟩ := ob2_e h
      refine q_callVi0 C ltp_111 (qmem_o kd_111 (Nat.le_of_ble_eq_true rfl)) rfl rfl (kX8_errorPosition n 0 S13 hc14) lwL_115 rfl (rest := [.int r12]) rfl (Nat.le_of_ble_eq_true rfl) dL_law_266 ⟨rfl, rfl, Nat.le_of_ble_eq_true rfl, Nat.le_of_ble_eq_true rfl, (by omega : _ ≤ 601024), (by omega : _ ≤ 7293034)⟩ ?_
      refine q_icmp_eq (tgt := 1776) C h dL_law_269 (by decide) (fun h => ?_) (fun h => ?_)
      · obtain rfl := Option.some.inj h
        refine q_widen (k := c0 + 2) (n := s0 + 12) (by omega) (by omega) ?_
        exact hk
      · cases h
    · refine q_iconst (v := 1) C dL_law_261 (by decide) ?_
      refine q_goto (tgt := 266) C dL_law_262 (by decide) ?_
      obtain ⟨r18, S19, hc17, h⟩ := ob2_e h
      refine q_callVi0 C ltp_111 (qmem_o kd_111 (Nat.le_of_ble_eq_true rfl)) rfl rfl (kX8_errorPosition n 1 S13 hc17) lwL_115 rfl (rest := [.int r12]) rfl (Nat.le_of_ble_eq_true rfl) dL_law_266 ⟨rfl, rfl, Nat.le_of_ble_eq_true rfl, Nat.le_of_ble_eq_true rfl, (by omega : _ ≤ 601024), (by omega : _ ≤ 7293034)⟩ ?_
      refine q_icmp_eq (tgt := 1776) C h dL_law_269 (by decide) (fun h => ?_) (fun h => ?_)
      · obtain rfl := Option.some.inj h
        refine q_widen (k := c0 + 2) (n := s0 + 12) (by omega) (by omega) ?_
        exact hk
      · cases h
def CL_274 (n : Nat) (xs : Nat → Int32) (L : Nat) (v4 : Int32) (S : qSt) : Option qSt := ob2 (FL_load n S) fun r2 S3 => ob2 (F8_load n S3) fun r5 S6 => if (F8_thrown S6) = r2 then (if ¬ r2 = 0 then (some S6) else (if (lg_cmp ((S6 126 (0 : Int32).toNatClampNeg).toInt64) r5.toInt64) = 0 then (some S6) else (none))) else (none)
set_option maxRecDepth 100000 in
set_option maxHeartbeats 4000000 in
theorem WL_274 {S2 : qSt} {Q : State → Prop} {c0 s0 : Nat} (C : qC g cL_law RL 7 p s m meth c) (hl9 : l.stackTraces = false) (hX : va_X b L xs s s.heap) (hbl : b < s.heap.size) (hbA : ¬ qA g b) (hc0 : c0 + 2 ≤ 601024) (hs0 : s0 + 12 ≤ 7293034) (n : Nat) (v4 : Int32) (S : qSt) (h : CL_274 n xs L v4 S = some S2) (hk : qR g NL qT 7 p l e room_1 s m args below meth c (c0 + 2) (s0 + 12) Q (qmem g S2) 1776 [(0, .ref b), (1, .ref (qa g 0)), (2, .ref (qa g 111)), (3, .ref (qa g 126)), (4, .int v4)] []) : qR g NL qT 7 p l e room_1 s m args below meth c c0 s0 Q (qmem g S) 274 [(0, .ref b), (1, .ref (qa g 0)), (2, .ref (qa g 111)), (3, .ref (qa g 126)), (4, .int v4)] [] := by
  unfold CL_274 at h
  refine q_aload_n C 1 dL_law_274 rfl rfl ?_
  refine q_aload_n C 3 dL_law_275 rfl rfl ?_
  obtain ⟨r2, S3, hc1, h⟩ := ob2_e h
  refine q_callW C (kL_load hl9 n S hc1) lwL_116 rfl (rest := []) rfl (Nat.le_of_ble_eq_true rfl) dL_law_276 ⟨rfl, rfl, Nat.le_of_ble_eq_true rfl, Nat.le_of_ble_eq_true rfl, (by omega : _ ≤ 601024), (by omega : _ ≤ 7293034)⟩ ?_
  refine q_istore C (lv' := [(5, .int r2), (0, .ref b), (1, .ref (qa g 0)), (2, .ref (qa g 111)), (3, .ref (qa g 126)), (4, .int v4)]) dL_law_279 (by decide) rfl ?_
  refine q_norm [1, 2, 3, 4, 5, 0] rfl ?_
  refine q_aload_n C 2 dL_law_281 rfl rfl ?_
  obtain ⟨r5, S6, hc4, h⟩ := ob2_e h
  refine q_callVi0 C ltp_111 (qmem_o kd_111 (Nat.le_of_ble_eq_true rfl)) rfl rfl (kX8_load n S3 hc4) lwL_119 rfl (rest := []) rfl (Nat.le_of_ble_eq_true rfl) dL_law_282 ⟨rfl, rfl, Nat.le_of_ble_eq_true rfl, Nat.le_of_ble_eq_true rfl, (by omega : _ ≤ 601024), (by omega : _ ≤ 7293034)⟩ ?_
  refine q_istore C (lv' := [(6, .int r5), (0, .ref b), (1, .ref (qa g 0)), (2, .ref (qa g 111)), (3, .ref (qa g 126)), (4, .int v4), (5, .int r2)]) dL_law_285 (by decide) rfl ?_
  refine q_norm [1, 2, 3, 4, 5, 6, 0] rfl ?_
  refine q_aload_n C 2 dL_law_287 rfl rfl ?_
  refine q_callVi0 C ltp_111 (qmem_o kd_111 (Nat.le_of_ble_eq_true rfl)) rfl rfl (kX8_thrown S6) lwL_104 rfl (rest := []) rfl (Nat.le_of_ble_eq_true rfl) dL_law_288 ⟨rfl, rfl, Nat.le_of_ble_eq_true rfl, Nat.le_of_ble_eq_true rfl, (by omega : _ ≤ 601024), (by omega : _ ≤ 7293034)⟩ ?_
  refine q_iload C 5 dL_law_291 rfl ?_
  refine q_icmp_eq (tgt := 298) C h dL_law_293 (by decide) (fun h => ?_) (fun h => ?_)
  · refine q_iload C 5 dL_law_298 rfl ?_
    refine q_if_ne (tgt := 315) C h dL_law_300 (by decide) (fun h => ?_) (fun h => ?_)
    · refine q_goto (tgt := 1776) C dL_law_315 (by decide) ?_
      obtain rfl := Option.some.inj h
      refine q_widen (k := c0 + 2) (n := s0 + 12) (by omega) (by omega) ?_
      refine q_norm [0, 1, 2, 3, 4] rfl ?_
      exact hk
    · refine q_aload_n C 3 dL_law_303 rfl rfl ?_
      refine q_iconst (v := 0) C dL_law_304 (by decide) ?_
      refine s_lald C ltp_126 kd_126 (by decide) dL_law_305 ?_
      refine q_iload C 6 dL_law_306 rfl ?_
      refine q_i2l C dL_law_308 rfl ?_
      refine q_lcmp C dL_law_309 ?_
      refine q_if_eq (tgt := 315) C h dL_law_310 (by decide) (fun h => ?_) (fun h => ?_)
      · refine q_goto (tgt := 1776) C dL_law_315 (by decide) ?_
        obtain rfl := Option.some.inj h
        refine q_widen (k := c0 + 2) (n := s0 + 12) (by omega) (by omega) ?_
        refine q_norm [0, 1, 2, 3, 4] rfl ?_
        exact hk
      · cases h
  · cases h
def CL_318 (n : Nat) (xs : Nat → Int32) (L : Nat) (v4 : Int32) (S : qSt) : Option qSt := if qin (v4 + 1) L = true then ob2 (FL_about n (xs (v4 + 1).toNatClampNeg) S) fun r3 S4 => ob2 (F8_about n (xs (v4 + 1).toNatClampNeg) S4) fun r6 S7 => if (F8_thrown S7) = r3 then (if ¬ r3 = 0 then (some S7) else (if (lg_cmp ((S7 126 (0 : Int32).toNatClampNeg).toInt64) r6.toInt64) = 0 then (some S7) else (none))) else (none) else none
set_option maxRecDepth 100000 in
set_option maxHeartbeats 4000000 in
theorem WL_318 {S2 : qSt} {Q : State → Prop} {c0 s0 : Nat} (C : qC g cL_law RL 7 p s m meth c) (hl9 : l.stackTraces = false) (hX : va_X b L xs s s.heap) (hbl : b < s.heap.size) (hbA : ¬ qA g b) (hc0 : c0 + 2 ≤ 601024) (hs0 : s0 + 12 ≤ 7293034) (n : Nat) (v4 : Int32) (S : qSt) (h : CL_318 n xs L v4 S = some S2) (hk : qR g NL qT 7 p l e room_1 s m args below meth c (c0 + 2) (s0 + 12) Q (qmem g S2) 1776 [(0, .ref b), (1, .ref (qa g 0)), (2, .ref (qa g 111)), (3, .ref (qa g 126)), (4, .int v4)] []) : qR g NL qT 7 p l e room_1 s m args below meth c c0 s0 Q (qmem g S) 318 [(0, .ref b), (1, .ref (qa g 0)), (2, .ref (qa g 111)), (3, .ref (qa g 126)), (4, .int v4)] [] := by
  unfold CL_318 at h
  refine q_aload_n C 1 dL_law_318 rfl rfl ?_
  refine q_aload_n C 0 dL_law_319 rfl rfl ?_
  refine q_iload C 4 dL_law_320 rfl ?_
  refine q_iconst (v := 1) C dL_law_322 (by decide) ?_
  refine q_iadd C dL_law_323 ?_
  obtain ⟨hb1, h⟩ := q_if h
  refine q_sld C hX hbl hbA hb1 dL_law_324 ?_
  refine q_aload_n C 3 dL_law_325 rfl rfl ?_
  obtain ⟨r3, S4, hc2, h⟩ := ob2_e h
  refine q_callW C (kL_about hl9 n (xs (v4 + 1).toNatClampNeg) S hc2) lwL_120 rfl (rest := []) rfl (Nat.le_of_ble_eq_true rfl) dL_law_326 ⟨rfl, rfl, Nat.le_of_ble_eq_true rfl, Nat.le_of_ble_eq_true rfl, (by omega : _ ≤ 601024), (by omega : _ ≤ 7293034)⟩ ?_
  refine q_istore C (lv' := [(5, .int r3), (0, .ref b), (1, .ref (qa g 0)), (2, .ref (qa g 111)), (3, .ref (qa g 126)), (4, .int v4)]) dL_law_329 (by decide) rfl ?_
  refine q_norm [1, 2, 3, 4, 5, 0] rfl ?_
  refine q_aload_n C 2 dL_law_331 rfl rfl ?_
  refine q_aload_n C 0 dL_law_332 rfl rfl ?_
  refine q_iload C 4 dL_law_333 rfl ?_
  refine q_iconst (v := 1) C dL_law_335 (by decide) ?_
  refine q_iadd C dL_law_336 ?_
  refine q_sld C hX hbl hbA hb1 dL_law_337 ?_
  obtain ⟨r6, S7, hc5, h⟩ := ob2_e h
  refine q_callVi0 C ltp_111 (qmem_o kd_111 (Nat.le_of_ble_eq_true rfl)) rfl rfl (kX8_about n (xs (v4 + 1).toNatClampNeg) S4 hc5) lwL_122 rfl (rest := []) rfl (Nat.le_of_ble_eq_true rfl) dL_law_338 ⟨rfl, rfl, Nat.le_of_ble_eq_true rfl, Nat.le_of_ble_eq_true rfl, (by omega : _ ≤ 601024), (by omega : _ ≤ 7293034)⟩ ?_
  refine q_istore C (lv' := [(6, .int r6), (0, .ref b), (1, .ref (qa g 0)), (2, .ref (qa g 111)), (3, .ref (qa g 126)), (4, .int v4), (5, .int r3)]) dL_law_341 (by decide) rfl ?_
  refine q_norm [1, 2, 3, 4, 5, 6, 0] rfl ?_
  refine q_aload_n C 2 dL_law_343 rfl rfl ?_
  refine q_callVi0 C ltp_111 (qmem_o kd_111 (Nat.le_of_ble_eq_true rfl)) rfl rfl (kX8_thrown S7) lwL_104 rfl (rest := []) rfl (Nat.le_of_ble_eq_true rfl) dL_law_344 ⟨rfl, rfl, Nat.le_of_ble_eq_true rfl, Nat.le_of_ble_eq_true rfl, (by omega : _ ≤ 601024), (by omega : _ ≤ 7293034)⟩ ?_
  refine q_iload C 5 dL_law_347 rfl ?_
  refine q_icmp_eq (tgt := 354) C h dL_law_349 (by decide) (fun h => ?_) (fun h => ?_)
  · refine q_iload C 5 dL_law_354 rfl ?_
    refine q_if_ne (tgt := 371) C h dL_law_356 (by decide) (fun h => ?_) (fun h => ?_)
    · refine q_goto (tgt := 1776) C dL_law_371 (by decide) ?_
      obtain rfl := Option.some.inj h
      refine q_widen (k := c0 + 2) (n := s0 + 12) (by omega) (by omega) ?_
      refine q_norm [0, 1, 2, 3, 4] rfl ?_
      exact hk
    · refine q_aload_n C 3 dL_law_359 rfl rfl ?_
      refine q_iconst (v := 0) C dL_law_360 (by decide) ?_
      refine s_lald C ltp_126 kd_126 (by decide) dL_law_361 ?_
      refine q_iload C 6 dL_law_362 rfl ?_
      refine q_i2l C dL_law_364 rfl ?_
      refine q_lcmp C dL_law_365 ?_
      refine q_if_eq (tgt := 371) C h dL_law_366 (by decide) (fun h => ?_) (fun h => ?_)
      · refine q_goto (tgt := 1776) C dL_law_371 (by decide) ?_
        obtain rfl := Option.some.inj h
        refine q_widen (k := c0 + 2) (n := s0 + 12) (by omega) (by omega) ?_
        refine q_norm [0, 1, 2, 3, 4] rfl ?_
        exact hk
      · cases h
  · cases h
def CL_374 (n : Nat) (xs : Nat → Int32) (L : Nat) (v4 : Int32) (S : qSt) : Option qSt := if qin (v4 + 1) L = true then if qin (v4 + 2) L = true then ob2 (FL_street n (xs (v4 + 1).toNatClampNeg) (xs (v4 + 2).toNatClampNeg) S) fun r4 S5 => ob2 (F8_street n (xs (v4 + 1).toNatClampNeg) (xs (v4 + 2).toNatClampNeg) S5) fun r7 S8 => if (F8_thrown S8) = r4 then (if ¬ r4 = 0 then (some S8) else (if (lg_cmp ((S8 126 (0 : Int32).toNatClampNeg).toInt64) r7.toInt64) = 0 then (some S8) else (none))) else (none) else none else none
set_option maxRecDepth 100000 in
set_option maxHeartbeats 4000000 in
theorem WL_374 {S2 : qSt} {Q : State → Prop} {c0 s0 : Nat} (C : qC g cL_law RL 7 p s m meth c) (hl9 : l.stackTraces = false) (hX : va_X b L xs s s.heap) (hbl : b < s.heap.size) (hbA : ¬ qA g b) (hc0 : c0 + 2 ≤ 601024) (hs0 : s0 + 12 ≤ 7293034) (n : Nat) (v4 : Int32) (S : qSt) (h : CL_374 n xs L v4 S = some S2) (hk : qR g NL qT 7 p l e room_1 s m args below meth c (c0 + 2) (s0 + 12) Q (qmem g S2) 1776 [(0, .ref b), (1, .ref (qa g 0)), (2, .ref (qa g 111)), (3, .ref (qa g 126)), (4, .int v4)] []) : qR g NL qT 7 p l e room_1 s m args below meth c c0 s0 Q (qmem g S) 374 [(0, .ref b), (1, .ref (qa g 0)), (2, .ref (qa g 111)), (3, .ref (qa g 126)), (4, .int v4)] [] := by
  unfold CL_374 at h
  refine q_aload_n C 1 dL_law_374 rfl rfl ?_
  refine q_aload_n C 0 dL_law_375 rfl rfl ?_
  refine q_iload C 4 dL_law_376 rfl ?_
  refine q_iconst (v := 1) C dL_law_378 (by decide) ?_
  refine q_iadd C dL_law_379 ?_
  obtain ⟨hb1, h⟩ := q_if h
  refine q_sld C hX hbl hbA hb1 dL_law_380 ?_
  refine q_aload_n C 0 dL_law_381 rfl rfl ?_
  refine q_iload C 4 dL_law_382 rfl ?_
  refine q_iconst (v := 2) C dL_law_384 (by decide) ?_
  refine q_iadd C dL_law_385 ?_
  obtain ⟨hb2, h⟩ := q_if h
  refine q_sld C hX hbl hbA hb2 dL_law_386 ?_
  refine q_aload_n C 3 dL_law_387 rfl rfl ?_
  obtain ⟨r4, S5, hc3, h⟩ := ob2_e h
  refine q_callW C (kL_street hl9 n (xs (v4 + 1).toNatClampNeg) (xs (v4 + 2).toNatClampNeg) S hc3) lwL_123 rfl (rest := []) rfl (Nat.le_of_ble_eq_true rfl) dL_law_388 ⟨rfl, rfl, Nat.le_of_ble_eq_true rfl, Nat.le_of_ble_eq_true rfl, (by omega : _ ≤ 601024), (by omega : _ ≤ 7293034)⟩ ?_
  refine q_istore C (lv' := [(5, .int r4), (0, .ref b), (1, .ref (qa g 0)), (2, .ref (qa g 111)), (3, .ref (qa g 126)), (4, .int v4)]) dL_law_391 (by decide) rfl ?_
  refine q_norm [1, 2, 3, 4, 5, 0] rfl ?_
  refine q_aload_n C 2 dL_law_393 rfl rfl ?_
  refine q_aload_n C 0 dL_law_394 rfl rfl ?_
  refine q_iload C 4 dL_law_395 rfl ?_
  refine q_iconst (v := 1) C dL_law_397 (by decide) ?_
  refine q_iadd C dL_law_398 ?_
  refine q_sld C hX hbl hbA hb1 dL_law_399 ?_
  refine q_aload_n C 0 dL_law_400 rfl rfl ?_
  refine q_iload C 4 dL_law_401 rfl ?_
  refine q_iconst (v := 2) C dL_law_403 (by decide) ?_
  refine q_iadd C dL_law_404 ?_
  refine q_sld C hX hbl hbA hb2 dL_law_405 ?_
  obtain ⟨r7, S8, hc6, h⟩ := ob2_e h
  refine q_callVi0 C ltp_111 (qmem_o kd_111 (Nat.le_of_ble_eq_true rfl)) rfl rfl (kX8_street n (xs (v4 + 1).toNatClampNeg) (xs (v4 + 2).toNatClampNeg) S5 hc6) lwL_126 rfl (rest := []) rfl (Nat.le_of_ble_eq_true rfl) dL_law_406 ⟨rfl, rfl, Nat.le_of_ble_eq_true rfl, Nat.le_of_ble_eq_true rfl, (by omega : _ ≤ 601024), (by omega : _ ≤ 7293034)⟩ ?_
  refine q_istore C (lv' := [(6, .int r7), (0, .ref b), (1, .ref (qa g 0)), (2, .ref (qa g 111)), (3, .ref (qa g 126)), (4, .int v4), (5, .int r4)]) dL_law_409 (by decide) rfl ?_
  refine q_norm [1, 2, 3, 4, 5, 6, 0] rfl ?_
  refine q_aload_n C 2 dL_law_411 rfl rfl ?_
  refine q_callVi0 C ltp_111 (qmem_o kd_111 (Nat.le_of_ble_eq_true rfl)) rfl rfl (kX8_thrown S8) lwL_104 rfl (rest := []) rfl (Nat.le_of_ble_eq_true rfl) dL_law_412 ⟨rfl, rfl, Nat.le_of_ble_eq_true rfl, Nat.le_of_ble_eq_true rfl, (by omega : _ ≤ 601024), (by omega : _ ≤ 7293034)⟩ ?_
  refine q_iload C 5 dL_law_415 rfl ?_
  refine q_icmp_eq (tgt := 422) C h dL_law_417 (by decide) (fun h => ?_) (fun h => ?_)
  · refine q_iload C 5 dL_law_422 rfl ?_
    refine q_if_ne (tgt := 439) C h dL_law_424 (by decide) (fun h => ?_) (fun h => ?_)
    · refine q_goto (tgt := 1776) C dL_law_439 (by decide) ?_
      obtain rfl := Option.some.inj h
      refine q_widen (k := c0 + 2) (n := s0 + 12) (by omega) (by omega) ?_
      refine q_norm [0, 1, 2, 3, 4] rfl ?_
      exact hk
    · refine q_aload_n C 3 dL_law_427 rfl rfl ?_
      refine q_iconst (v := 0) C dL_law_428 (by decide) ?_
      refine s_lald C ltp_126 kd_126 (by decide) dL_law_429 ?_
      refine q_iload C 6 dL_law_430 rfl ?_
      refine q_i2l C dL_law_432 rfl ?_
      refine q_lcmp C dL_law_433 ?_
      refine q_if_eq (tgt := 439) C h dL_law_434 (by decide) (fun h => ?_) (fun h => ?_)
      · refine q_goto (tgt := 1776) C dL_law_439 (by decide) ?_
        obtain rfl := Option.some.inj h
        refine q_widen (k := c0 + 2) (n := s0 + 12) (by omega) (by omega) ?_
        refine q_norm [0, 1, 2, 3, 4] rfl ?_
        exact hk
      · cases h
  · cases h
def CL_442 (n : Nat) (xs : Nat → Int32) (L : Nat) (v4 : Int32) (S : qSt) : Option qSt := if qin (v4 + 1) L = true then if qin (v4 + 2) L = true then ob2 (FL_crossing n (xs (v4 + 1).toNatClampNeg) (xs (v4 + 2).toNatClampNeg) S) fun r4 S5 => ob2 (F8_crossing n (xs (v4 + 1).toNatClampNeg) (xs (v4 + 2).toNatClampNeg) S5) fun r7 S8 => if (F8_thrown S8) = r4 then (if ¬ r4 = 0 then (some S8) else (if (lg_cmp ((S8 126 (0 : Int32).toNatClampNeg).toInt64) r7.toInt64) = 0 then (some S8) else (none))) else (none) else none else none
set_option maxRecDepth 100000 in
set_option maxHeartbeats 4000000 in
theorem WL_442 {S2 : qSt} {Q : State → Prop} {c0 s0 : Nat} (C : qC g cL_law RL 7 p s m meth c) (hl9 : l.stackTraces = false) (hX : va_X b L xs s s.heap) (hbl : b < s.heap.size) (hbA : ¬ qA g b) (hc0 : c0 + 2 ≤ 601024) (hs0 : s0 + 12 ≤ 7293034) (n : Nat) (v4 : Int32) (S : qSt) (h : CL_442 n xs L v4 S = some S2) (hk : qR g NL qT 7 p l e room_1 s m args below meth c (c0 + 2) (s0 + 12) Q (qmem g S2) 1776 [(0, .ref b), (1, .ref (qa g 0)), (2, .ref (qa g 111)), (3, .ref (qa g 126)), (4, .int v4)] []) : qR g NL qT 7 p l e room_1 s m args below meth c c0 s0 Q (qmem g S) 442 [(0, .ref b), (1, .ref (qa g 0)), (2, .ref (qa g 111)), (3, .ref (qa g 126)), (4, .int v4)] [] := by
  unfold CL_442 at h
  refine q_aload_n C 1 dL_law_442 rfl rfl ?_
  refine q_aload_n C 0 dL_law_443 rfl rfl ?_
  refine q_iload C 4 dL_law_444 rfl ?_
  refine q_iconst (v := 1) C dL_law_446 (by decide) ?_
  refine q_iadd C dL_law_447 ?_
  obtain ⟨hb1, h⟩ := q_if h
  refine q_sld C hX hbl hbA hb1 dL_law_448 ?_
  refine q_aload_n C 0 dL_law_449 rfl rfl ?_
  refine q_iload C 4 dL_law_450 rfl ?_
  refine q_iconst (v := 2) C dL_law_452 (by decide) ?_
  refine q_iadd C dL_law_453 ?_
  obtain ⟨hb2, h⟩ := q_if h
  refine q_sld C hX hbl hbA hb2 dL_law_454 ?_
  refine q_aload_n C 3 dL_law_455 rfl rfl ?_
  obtain ⟨r4, S5, hc3, h⟩ := ob2_e h
  refine q_callW C (kL_crossing hl9 n (xs (v4 + 1).toNatClampNeg) (xs (v4 + 2).toNatClampNeg) S hc3) lwL_127 rfl (rest := []) rfl (Nat.le_of_ble_eq_true rfl) dL_law_456 ⟨rfl, rfl, Nat.le_of_ble_eq_true rfl, Nat.le_of_ble_eq_true rfl, (by omega : _ ≤ 601024), (by omega : _ ≤ 7293034)⟩ ?_
  refine q_istore C (lv' := [(5, .int r4), (0, .ref b), (1, .ref (qa g 0)), (2, .ref (qa g 111)), (3, .ref (qa g 126)), (4, .int v4)]) dL_law_459 (by decide) rfl ?_
  refine q_norm [1, 2, 3, 4, 5, 0] rfl ?_
  refine q_aload_n C 2 dL_law_461 rfl rfl ?_
  refine q_aload_n C 0 dL_law_462 rfl rfl ?_
  refine q_iload C 4 dL_law_463 rfl ?_
  refine q_iconst (v := 1) C dL_law_465 (by decide) ?_
  refine q_iadd C dL_law_466 ?_
  refine q_sld C hX hbl hbA hb1 dL_law_467 ?_
  refine q_aload_n C 0 dL_law_468 rfl rfl ?_
  refine q_iload C 4 dL_law_469 rfl ?_
  refine q_iconst (v := 2) C dL_law_471 (by decide) ?_
  refine q_iadd C dL_law_472 ?_
  refine q_sld C hX hbl hbA hb2 dL_law_473 ?_
  obtain ⟨r7, S8, hc6, h⟩ := ob2_e h
  refine q_callVi0 C ltp_111 (qmem_o kd_111 (Nat.le_of_ble_eq_true rfl)) rfl rfl (kX8_crossing n (xs (v4 + 1).toNatClampNeg) (xs (v4 + 2).toNatClampNeg) S5 hc6) lwL_129 rfl (rest := []) rfl (Nat.le_of_ble_eq_true rfl) dL_law_474 ⟨rfl, rfl, Nat.le_of_ble_eq_true rfl, Nat.le_of_ble_eq_true rfl, (by omega : _ ≤ 601024), (by omega : _ ≤ 7293034)⟩ ?_
  refine q_istore C (lv' := [(6, .int r7), (0, .ref b), (1, .ref (qa g 0)), (2, .ref (qa g 111)), (3, .ref (qa g 126)), (4, .int v4), (5, .int r4)]) dL_law_477 (by decide) rfl ?_
  refine q_norm [1, 2, 3, 4, 5, 6, 0] rfl ?_
  refine q_aload_n C 2 dL_law_479 rfl rfl ?_
  refine q_callVi0 C ltp_111 (qmem_o kd_111 (Nat.le_of_ble_eq_true rfl)) rfl rfl (kX8_thrown S8) lwL_104 rfl (rest := []) rfl (Nat.le_of_ble_eq_true rfl) dL_law_480 ⟨rfl, rfl, Nat.le_of_ble_eq_true rfl, Nat.le_of_ble_eq_true rfl, (by omega : _ ≤ 601024), (by omega : _ ≤ 7293034)⟩ ?_
  refine q_iload C 5 dL_law_483 rfl ?_
  refine q_icmp_eq (tgt := 490) C h dL_law_485 (by decide) (fun h => ?_) (fun h => ?_)
  · refine q_iload C 5 dL_law_490 rfl ?_
    refine q_if_ne (tgt := 507) C h dL_law_492 (by decide) (fun h => ?_) (fun h => ?_)
    · refine q_goto (tgt := 1776) C dL_law_507 (by decide) ?_
      obtain rfl := Option.some.inj h
      refine q_widen (k := c0 + 2) (n := s0 + 12) (by omega) (by omega) ?_
      refine q_norm [0, 1, 2, 3, 4] rfl ?_
      exact hk
    · refine q_aload_n C 3 dL_law_495 rfl rfl ?_
      refine q_iconst (v := 0) C dL_law_496 (by decide) ?_
      refine s_lald C ltp_126 kd_126 (by decide) dL_law_497 ?_
      refine q_iload C 6 dL_law_498 rfl ?_
      refine q_i2l C dL_law_500 rfl ?_
      refine q_lcmp C dL_law_501 ?_
      refine q_if_eq (tgt := 507) C h dL_law_502 (by decide) (fun h => ?_) (fun h => ?_)
      · refine q_goto (tgt := 1776) C dL_law_507 (by decide) ?_
        obtain rfl := Option.some.inj h
        refine q_widen (k := c0 + 2) (n := s0 + 12) (by omega) (by omega) ?_
        refine q_norm [0, 1, 2, 3, 4] rfl ?_
        exact hk
      · cases h
  · cases h
def CL_510 (n : Nat) (xs : Nat → Int32) (L : Nat) (v4 : Int32) (S : qSt) : Option qSt := if qin (v4 + 1) L = true then if qin (v4 + 2) L = true then ob2 (FL_between n (xs (v4 + 1).toNatClampNeg) (xs (v4 + 2).toNatClampNeg) S) fun r4 S5 => ob2 (F8_between n (xs (v4 + 1).toNatClampNeg) (xs (v4 + 2).toNatClampNeg) S5) fun r7 S8 => if (F8_thrown S8) = r4 then (if ¬ r4 = 0 then (some S8) else (if (lg_cmp ((S8 126 (0 : Int32).toNatClampNeg).toInt64) r7.toInt64) = 0 then (some S8) else (none))) else (none) else none else none
set_option maxRecDepth 100000 in
set_option maxHeartbeats 4000000 in
theorem WL_510 {S2 : qSt} {Q : State → Prop} {c0 s0 : Nat} (C : qC g cL_law RL 7 p s m meth c) (hl9 : l.stackTraces = false) (hX : va_X b L xs s s.heap) (hbl : b < s.heap.size) (hbA : ¬ qA g b) (hc0 : c0 + 2 ≤ 601024) (hs0 : s0 + 12 ≤ 7293034) (n : Nat) (v4 : Int32) (S : qSt) (h : CL_510 n xs L v4 S = some S2) (hk : qR g NL qT 7 p l e room_1 s m args below meth c (c0 + 2) (s0 + 12) Q (qmem g S2) 1776 [(0, .ref b), (1, .ref (qa g 0)), (2, .ref (qa g 111)), (3, .ref (qa g 126)), (4, .int v4)] []) : qR g NL qT 7 p l e room_1 s m args below meth c c0 s0 Q (qmem g S) 510 [(0, .ref b), (1, .ref (qa g 0)), (2, .ref (qa g 111)), (3, .ref (qa g 126)), (4, .int v4)] [] := by
  unfold CL_510 at h
  refine q_aload_n C 1 dL_law_510 rfl rfl ?_
  refine q_aload_n C 0 dL_law_511 rfl rfl ?_
  refine q_iload C 4 dL_law_512 rfl ?_
  refine q_iconst (v := 1) C dL_law_514 (by decide) ?_
  refine q_iadd C dL_law_515 ?_
  obtain ⟨hb1, h⟩ := q_if h
  refine q_sld C hX hbl hbA hb1 dL_law_516 ?_
  refine q_aload_n C 0 dL_law_517 rfl rfl ?_
  refine q_iload C 4 dL_law_518 rfl ?_
  refine q_iconst (v := 2) C dL_law_520 (by decide) ?_
  refine q_iadd C dL_law_521 ?_
  obtain ⟨hb2, h⟩ := q_if h
  refine q_sld C hX hbl hbA hb2 dL_law_522 ?_
  refine q_aload_n C 3 dL_law_523 rfl rfl ?_
  obtain ⟨r4, S5, hc3, h⟩ := ob2_e h
  refine q_callW C (kL_between hl9 n (xs (v4 + 1).toNatClampNeg) (xs (v4 + 2).toNatClampNeg) S hc3) lwL_130 rfl (rest := []) rfl (Nat.le_of_ble_eq_true rfl) dL_law_524 ⟨rfl, rfl, Nat.le_of_ble_eq_true rfl, Nat.le_of_ble_eq_true rfl, (by omega : _ ≤ 601024), (by omega : _ ≤ 7293034)⟩ ?_
  refine q_istore C (lv' := [(5, .int r4), (0, .ref b), (1, .ref (qa g 0)), (2, .ref (qa g 111)), (3, .ref (qa g 126)), (4, .int v4)]) dL_law_527 (by decide) rfl ?_
  refine q_norm [1, 2, 3, 4, 5, 0] rfl ?_
  refine q_aload_n C 2 dL_law_529 rfl rfl ?_
  refine q_aload_n C 0 dL_law_530 rfl rfl ?_
  refine q_iload C 4 dL_law_531 rfl ?_
  refine q_iconst (v := 1) C dL_law_533 (by decide) ?_
  refine q_iadd C dL_law_534 ?_
  refine q_sld C hX hbl hbA hb1 dL_law_535 ?_
  refine q_aload_n C 0 dL_law_536 rfl rfl ?_
  refine q_iload C 4 dL_law_537 rfl ?_
  refine q_iconst (v := 2) C dL_law_539 (by decide) ?_
  refine q_iadd C dL_law_540 ?_
  refine q_sld C hX hbl hbA hb2 dL_law_541 ?_
  obtain ⟨r7, S8, hc6, h⟩ := ob2_e h
  refine q_callVi0 C ltp_111 (qmem_o kd_111 (Nat.le_of_ble_eq_true rfl)) rfl rfl (kX8_between n (xs (v4 + 1).toNatClampNeg) (xs (v4 + 2).toNatClampNeg) S5 hc6) lwL_132 rfl (rest := []) rfl (Nat.le_of_ble_eq_true rfl) dL_law_542 ⟨rfl, rfl, Nat.le_of_ble_eq_true rfl, Nat.le_of_ble_eq_true rfl, (by omega : _ ≤ 601024), (by omega : _ ≤ 7293034)⟩ ?_
  refine q_istore C (lv' := [(6, .int r7), (0, .ref b), (1, .ref (qa g 0)), (2, .ref (qa g 111)), (3, .ref (qa g 126)), (4, .int v4), (5, .int r4)]) dL_law_545 (by decide) rfl ?_
  refine q_norm [1, 2, 3, 4, 5, 6, 0] rfl ?_
  refine q_aload_n C 2 dL_law_547 rfl rfl ?_
  refine q_callVi0 C ltp_111 (qmem_o kd_111 (Nat.le_of_ble_eq_true rfl)) rfl rfl (kX8_thrown S8) lwL_104 rfl (rest := []) rfl (Nat.le_of_ble_eq_true rfl) dL_law_548 ⟨rfl, rfl, Nat.le_of_ble_eq_true rfl, Nat.le_of_ble_eq_true rfl, (by omega : _ ≤ 601024), (by omega : _ ≤ 7293034)⟩ ?_
  refine q_iload C 5 dL_law_551 rfl ?_
  refine q_icmp_eq (tgt := 558) C h dL_law_553 (by decide) (fun h => ?_) (fun h => ?_)
  · refine q_iload C 5 dL_law_558 rfl ?_
    refine q_if_ne (tgt := 575) C h dL_law_560 (by decide) (fun h => ?_) (fun h => ?_)
    · refine q_goto (tgt := 1776) C dL_law_575 (by decide) ?_
      obtain rfl := Option.some.inj h
      refine q_widen (k := c0 + 2) (n := s0 + 12) (by omega) (by omega) ?_
      refine q_norm [0, 1, 2, 3, 4] rfl ?_
      exact hk
    · refine q_aload_n C 3 dL_law_563 rfl rfl ?_
      refine q_iconst (v := 0) C dL_law_564 (by decide) ?_
      refine s_lald C ltp_126 kd_126 (by decide) dL_law_565 ?_
      refine q_iload C 6 dL_law_566 rfl ?_
      refine q_i2l C dL_law_568 rfl ?_
      refine q_lcmp C dL_law_569 ?_
      refine q_if_eq (tgt := 575) C h dL_law_570 (by decide) (fun h => ?_) (fun h => ?_)
      · refine q_goto (tgt := 1776) C dL_law_575 (by decide) ?_
        obtain rfl := Option.some.inj h
        refine q_widen (k := c0 + 2) (n := s0 + 12) (by omega) (by omega) ?_
        refine q_norm [0, 1, 2, 3, 4] rfl ?_
        exact hk
      · cases h
  · cases h
def CL_578 (n : Nat) (xs : Nat → Int32) (L : Nat) (v4 : Int32) (S : qSt) : Option qSt := if qin (v4 + 1) L = true then ob2 (FL_wayAt n (xs (v4 + 1).toNatClampNeg) S) fun r3 S4 => ob2 (F8_wayAt n (xs (v4 + 1).toNatClampNeg) S4) fun r6 S7 => if (F8_thrown S7) = r3 then (if ¬ r3 = 0 then (some S7) else (if (lg_cmp ((S7 126 (0 : Int32).toNatClampNeg).toInt64) r6.toInt64) = 0 then (some S7) else (none))) else (none) else none
set_option maxRecDepth 100000 in
set_option maxHeartbeats 4000000 in
theorem WL_578 {S2 : qSt} {Q : State → Prop} {c0 s0 : Nat} (C : qC g cL_law RL 7 p s m meth c) (hl9 : l.stackTraces = false) (hX : va_X b L xs s s.heap) (hbl : b < s.heap.size) (hbA : ¬ qA g b) (hc0 : c0 + 2 ≤ 601024) (hs0 : s0 + 12 ≤ 7293034) (n : Nat) (v4 : Int32) (S : qSt) (h : CL_578 n xs L v4 S = some S2) (hk : qR g NL qT 7 p l e room_1 s m args below meth c (c0 + 2) (s0 + 12) Q (qmem g S2) 1776 [(0, .ref b), (1, .ref (qa g 0)), (2, .ref (qa g 111)), (3, .ref (qa g 126)), (4, .int v4)] []) : qR g NL qT 7 p l e room_1 s m args below meth c c0 s0 Q (qmem g S) 578 [(0, .ref b), (1, .ref (qa g 0)), (2, .ref (qa g 111)), (3, .ref (qa g 126)), (4, .int v4)] [] := by
  unfold CL_578 at h
  refine q_aload_n C 1 dL_law_578 rfl rfl ?_
  refine q_aload_n C 0 dL_law_579 rfl rfl ?_
  refine q_iload C 4 dL_law_580 rfl ?_
  refine q_iconst (v := 1) C dL_law_582 (by decide) ?_
  refine q_iadd C dL_law_583 ?_
  obtain ⟨hb1, h⟩ := q_if h
  refine q_sld C hX hbl hbA hb1 dL_law_584 ?_
  refine q_aload_n C 3 dL_law_585 rfl rfl ?_
  obtain ⟨r3, S4, hc2, h⟩ := ob2_e h
  refine q_callW C (kL_wayAt hl9 n (xs (v4 + 1).toNatClampNeg) S hc2) lwL_133 rfl (rest := []) rfl (Nat.le_of_ble_eq_true rfl) dL_law_586 ⟨rfl, rfl, Nat.le_of_ble_eq_true rfl, Nat.le_of_ble_eq_true rfl, (by omega : _ ≤ 601024), (by omega : _ ≤ 7293034)⟩ ?_
  refine q_istore C (lv' := [(5, .int r3), (0, .ref b), (1, .ref (qa g 0)), (2, .ref (qa g 111)), (3, .ref (qa g 126)), (4, .int v4)]) dL_law_589 (by decide) rfl ?_
  refine q_norm [1, 2, 3, 4, 5, 0] rfl ?_
  refine q_aload_n C 2 dL_law_591 rfl rfl ?_
  refine q_aload_n C 0 dL_law_592 rfl rfl ?_
  refine q_iload C 4 dL_law_593 rfl ?_
  refine q_iconst (v := 1) C dL_law_595 (by decide) ?_
  refine q_iadd C dL_law_596 ?_
  refine q_sld C hX hbl hbA hb1 dL_law_597 ?_
  obtain ⟨r6, S7, hc5, h⟩ := ob2_e h
  refine q_callVi0 C ltp_111 (qmem_o kd_111 (Nat.le_of_ble_eq_true rfl)) rfl rfl (kX8_wayAt n (xs (v4 + 1).toNatClampNeg) S4 hc5) lwL_135 rfl (rest := []) rfl (Nat.le_of_ble_eq_true rfl) dL_law_598 ⟨rfl, rfl, Nat.le_of_ble_eq_true rfl, Nat.le_of_ble_eq_true rfl, (by omega : _ ≤ 601024), (by omega : _ ≤ 7293034)⟩ ?_
  refine q_istore C (lv' := [(6, .int r6), (0, .ref b), (1, .ref (qa g 0)), (2, .ref (qa g 111)), (3, .ref (qa g 126)), (4, .int v4), (5, .int r3)]) dL_law_601 (by decide) rfl ?_
  refine q_norm [1, 2, 3, 4, 5, 6, 0] rfl ?_
  refine q_aload_n C 2 dL_law_603 rfl rfl ?_
  refine q_callVi0 C ltp_111 (qmem_o kd_111 (Nat.le_of_ble_eq_true rfl)) rfl rfl (kX8_thrown S7) lwL_104 rfl (rest := []) rfl (Nat.le_of_ble_eq_true rfl) dL_law_604 ⟨rfl, rfl, Nat.le_of_ble_eq_true rfl, Nat.le_of_ble_eq_true rfl, (by omega : _ ≤ 601024), (by omega : _ ≤ 7293034)⟩ ?_
  refine q_iload C 5 dL_law_607 rfl ?_
  refine q_icmp_eq (tgt := 614) C h dL_law_609 (by decide) (fun h => ?_) (fun h => ?_)
  · refine q_iload C 5 dL_law_614 rfl ?_
    refine q_if_ne (tgt := 631) C h dL_law_616 (by decide) (fun h => ?_) (fun h => ?_)
    · refine q_goto (tgt := 1776) C dL_law_631 (by decide) ?_
      obtain rfl := Option.some.inj h
      refine q_widen (k := c0 + 2) (n := s0 + 12) (by omega) (by omega) ?_
      refine q_norm [0, 1, 2, 3, 4] rfl ?_
      exact hk
    · refine q_aload_n C 3 dL_law_619 rfl rfl ?_
      refine q_iconst (v := 0) C dL_law_620 (by decide) ?_
      refine s_lald C ltp_126 kd_126 (by decide) dL_law_621 ?_
      refine q_iload C 6 dL_law_622 rfl ?_
      refine q_i2l C dL_law_624 rfl ?_
      refine q_lcmp C dL_law_625 ?_
      refine q_if_eq (tgt := 631) C h dL_law_626 (by decide) (fun h => ?_) (fun h => ?_)
      · refine q_goto (tgt := 1776) C dL_law_631 (by decide) ?_
        obtain rfl := Option.some.inj h
        refine q_widen (k := c0 + 2) (n := s0 + 12) (by omega) (by omega) ?_
        refine q_norm [0, 1, 2, 3, 4] rfl ?_
        exact hk
      · cases h
  · cases h
def CL_634 (n : Nat) (xs : Nat → Int32) (L : Nat) (v4 : Int32) (S : qSt) : Option qSt := ob2 (FL_addCrossing n S) fun r2 S3 => ob2 (F8_addCrossing n S3) fun r5 S6 => if (F8_thrown S6) = r2 then (if ¬ r2 = 0 then (some S6) else (if (lg_cmp ((S6 126 (0 : Int32).toNatClampNeg).toInt64) r5.toInt64) = 0 then (some S6) else (none))) else (none)
set_option maxRecDepth 100000 in
set_option maxHeartbeats 4000000 in
theorem WL_634 {S2 : qSt} {Q : State → Prop} {c0 s0 : Nat} (C : qC g cL_law RL 7 p s m meth c) (hl9 : l.stackTraces = false) (hX : va_X b L xs s s.heap) (hbl : b < s.heap.size) (hbA : ¬ qA g b) (hc0 : c0 + 2 ≤ 601024) (hs0 : s0 + 12 ≤ 7293034) (n : Nat) (v4 : Int32) (S : qSt) (h : CL_634 n xs L v4 S = some S2) (hk : qR g NL qT 7 p l e room_1 s m args below meth c (c0 + 2) (s0 + 12) Q (qmem g S2) 1776 [(0, .ref b), (1, .ref (qa g 0)), (2, .ref (qa g 111)), (3, .ref (qa g 126)), (4, .int v4)] []) : qR g NL qT 7 p l e room_1 s m args below meth c c0 s0 Q (qmem g S) 634 [(0, .ref b), (1, .ref (qa g 0)), (2, .ref (qa g 111)), (3, .ref (qa g 126)), (4, .int v4)] [] := by
  unfold CL_634 at h
  refine q_aload_n C 1 dL_law_634 rfl rfl ?_
  refine q_aload_n C 3 dL_law_635 rfl rfl ?_
  obtain ⟨r2, S3, hc1, h⟩ := ob2_e h
  refine q_callW C (kL_addCrossing hl9 n S hc1) lwL_136 rfl (rest := []) rfl (Nat.le_of_ble_eq_true rfl) dL_law_636 ⟨rfl, rfl, Nat.le_of_ble_eq_true rfl, Nat.le_of_ble_eq_true rfl, (by omega : _ ≤ 601024), (by omega : _ ≤ 7293034)⟩ ?_
  refine q_istore C (lv' := [(5, .int r2), (0, .ref b), (1, .ref (qa g 0)), (2, .ref (qa g 111)), (3, .ref (qa g 126)), (4, .int v4)]) dL_law_639 (by decide) rfl ?_
  refine q_norm [1, 2, 3, 4, 5, 0] rfl ?_
  refine q_aload_n C 2 dL_law_641 rfl rfl ?_
  obtain ⟨r5, S6, hc4, h⟩ := ob2_e h
  refine q_callVi0 C ltp_111 (qmem_o kd_111 (Nat.le_of_ble_eq_true rfl)) rfl rfl (kX8_addCrossing n S3 hc4) lwL_138 rfl (rest := []) rfl (Nat.le_of_ble_eq_true rfl) dL_law_642 ⟨rfl, rfl, Nat.le_of_ble_eq_true rfl, Nat.le_of_ble_eq_true rfl, (by omega : _ ≤ 601024), (by omega : _ ≤ 7293034)⟩ ?_
  refine q_istore C (lv' := [(6, .int r5), (0, .ref b), (1, .ref (qa g 0)), (2, .ref (qa g 111)), (3, .ref (qa g 126)), (4, .int v4), (5, .int r2)]) dL_law_645 (by decide) rfl ?_
  refine q_norm [1, 2, 3, 4, 5, 6, 0] rfl ?_
  refine q_aload_n C 2 dL_law_647 rfl rfl ?_
  refine q_callVi0 C ltp_111 (qmem_o kd_111 (Nat.le_of_ble_eq_true rfl)) rfl rfl (kX8_thrown S6) lwL_104 rfl (rest := []) rfl (Nat.le_of_ble_eq_true rfl) dL_law_648 ⟨rfl, rfl, Nat.le_of_ble_eq_true rfl, Nat.le_of_ble_eq_true rfl, (by omega : _ ≤ 601024), (by omega : _ ≤ 7293034)⟩ ?_
  refine q_iload C 5 dL_law_651 rfl ?_
  refine q_icmp_eq (tgt := 658) C h dL_law_653 (by decide) (fun h => ?_) (fun h => ?_)
  · refine q_iload C 5 dL_law_658 rfl ?_
    refine q_if_ne (tgt := 675) C h dL_law_660 (by decide) (fun h => ?_) (fun h => ?_)
    · refine q_goto (tgt := 1776) C dL_law_675 (by decide) ?_
      obtain rfl := Option.some.inj h
      refine q_widen (k := c0 + 2) (n := s0 + 12) (by omega) (by omega) ?_
      refine q_norm [0, 1, 2, 3, 4] rfl ?_
      exact hk
    · refine q_aload_n C 3 dL_law_663 rfl rfl ?_
      refine q_iconst (v := 0) C dL_law_664 (by decide) ?_
      refine s_lald C ltp_126 kd_126 (by decide) dL_law_665 ?_
      refine q_iload C 6 dL_law_666 rfl ?_
      refine q_i2l C dL_law_668 rfl ?_
      refine q_lcmp C dL_law_669 ?_
      refine q_if_eq (tgt := 675) C h dL_law_670 (by decide) (fun h => ?_) (fun h => ?_)
      · refine q_goto (tgt := 1776) C dL_law_675 (by decide) ?_
        obtain rfl := Option.some.inj h
        refine q_widen (k := c0 + 2) (n := s0 + 12) (by omega) (by omega) ?_
        refine q_norm [0, 1, 2, 3, 4] rfl ?_
        exact hk
      · cases h
  · cases h
def CL_678 (n : Nat) (xs : Nat → Int32) (L : Nat) (v4 : Int32) (S : qSt) : Option qSt := if qin (v4 + 1) L = true then if qin (v4 + 2) L = true then if qin (v4 + 3) L = true then ob2 (FL_addStreet n (xs (v4 + 1).toNatClampNeg) (xs (v4 + 2).toNatClampNeg) (xs (v4 + 3).toNatClampNeg) S) fun r5 S6 => ob2 (F8_addStreet n (xs (v4 + 1).toNatClampNeg) (xs (v4 + 2).toNatClampNeg) (xs (v4 + 3).toNatClampNeg) S6) fun r8 S9 => if (F8_thrown S9) = r5 then (if ¬ r5 = 0 then (some S9) else (if (lg_cmp ((S9 126 (0 : Int32).toNatClampNeg).toInt64) r8.toInt64) = 0 then (some S9) else (none))) else (none) else none else none else none
set_option maxRecDepth 100000 in
set_option maxHeartbeats 4000000 in
theorem WL_678 {S2 : qSt} {Q : State → Prop} {c0 s0 : Nat} (C : qC g cL_law RL 7 p s m meth c) (hl9 : l.stackTraces = false) (hX : va_X b L xs s s.heap) (hbl : b < s.heap.size) (hbA : ¬ qA g b) (hc0 : c0 + 2 ≤ 601024) (hs0 : s0 + 12 ≤ 7293034) (n : Nat) (v4 : Int32) (S : qSt) (h : CL_678 n xs L v4 S = some S2) (hk : qR g NL qT 7 p l e room_1 s m args below meth c (c0 + 2) (s0 + 12) Q (qmem g S2) 1776 [(0, .ref b), (1, .ref (qa g 0)), (2, .ref (qa g 111)), (3, .ref (qa g 126)), (4, .int v4)] []) : qR g NL qT 7 p l e room_1 s m args below meth c c0 s0 Q (qmem g S) 678 [(0, .ref b), (1, .ref (qa g 0)), (2, .ref (qa g 111)), (3, .ref (qa g 126)), (4, .int v4)] [] := by
  unfold CL_678 at h
  refine q_aload_n C 1 dL_law_678 rfl rfl ?_
  refine q_aload_n C 0 dL_law_679 rfl rfl ?_
  refine q_iload C 4 dL_law_680 rfl ?_
  refine q_iconst (v := 1) C dL_law_682 (by decide) ?_
  refine q_iadd C dL_law_683 ?_
  obtain ⟨hb1, h⟩ := q_if h
  refine q_sld C hX hbl hbA hb1 dL_law_684 ?_
  refine q_aload_n C 0 dL_law_685 rfl rfl ?_
  refine q_iload C 4 dL_law_686 rfl ?_
  refine q_iconst (v := 2) C dL_law_688 (by decide) ?_
  refine q_iadd C dL_law_689 ?_
  obtain ⟨hb2, h⟩ := q_if h
  refine q_sld C hX hbl hbA hb2 dL_law_690 ?_
  refine q_aload_n C 0 dL_law_691 rfl rfl ?_
  refine q_iload C 4 dL_law_692 rfl ?_
  refine q_iconst (v := 3) C dL_law_694 (by decide) ?_
  refine q_iadd C dL_law_695 ?_
  obtain ⟨hb3, h⟩ := q_if h
  refine q_sld C hX hbl hbA hb3 dL_law_696 ?_
  refine q_aload_n C 3 dL_law_697 rfl rfl ?_
  obtain ⟨r5, S6, hc4, h⟩ := ob2_e h
  refine q_callW C (kL_addStreet hl9 n (xs (v4 + 1).toNatClampNeg) (xs (v4 + 2).toNatClampNeg) (xs (v4 + 3).toNatClampNeg) S hc4) lwL_139 rfl (rest := []) rfl (Nat.le_of_ble_eq_true rfl) dL_law_698 ⟨rfl, rfl, Nat.le_of_ble_eq_true rfl, Nat.le_of_ble_eq_true rfl, (by omega : _ ≤ 601024), (by omega : _ ≤ 7293034)⟩ ?_
  refine q_istore C (lv' := [(5, .int r5), (0, .ref b), (1, .ref (qa g 0)), (2, .ref (qa g 111)), (3, .ref (qa g 126)), (4, .int v4)]) dL_law_701 (by decide) rfl ?_
  refine q_norm [1, 2, 3, 4, 5, 0] rfl ?_
  refine q_aload_n C 2 dL_law_703 rfl rfl ?_
  refine q_aload_n C 0 dL_law_704 rfl rfl ?_
  refine q_iload C 4 dL_law_705 rfl ?_
  refine q_iconst (v := 1) C dL_law_707 (by decide) ?_
  refine q_iadd C dL_law_708 ?_
  refine q_sld C hX hbl hbA hb1 dL_law_709 ?_
  refine q_aload_n C 0 dL_law_710 rfl rfl ?_
  refine q_iload C 4 dL_law_711 rfl ?_
  refine q_iconst (v := 2) C dL_law_713 (by decide) ?_
  refine q_iadd C dL_law_714 ?_
  refine q_sld C hX hbl hbA hb2 dL_law_715 ?_
  refine q_aload_n C 0 dL_law_716 rfl rfl ?_
  refine q_iload C 4 dL_law_717 rfl ?_
  refine q_iconst (v := 3) C dL_law_719 (by decide) ?_
  refine q_iadd C dL_law_720 ?_
  refine q_sld C hX hbl hbA hb3 dL_law_721 ?_
  obtain ⟨r8, S9, hc7, h⟩ := ob2_e h
  refine q_callVi0 C ltp_111 (qmem_o kd_111 (Nat.le_of_ble_eq_true rfl)) rfl rfl (kX8_addStreet n (xs (v4 + 1).toNatClampNeg) (xs (v4 + 2).toNatClampNeg) (xs (v4 + 3).toNatClampNeg) S6 hc7) lwL_142 rfl (rest := []) rfl (Nat.le_of_ble_eq_true rfl) dL_law_722 ⟨rfl, rfl, Nat.le_of_ble_eq_true rfl, Nat.le_of_ble_eq_true rfl, (by omega : _ ≤ 601024), (by omega : _ ≤ 7293034)⟩ ?_
  refine q_istore C (lv' := [(6, .int r8), (0, .ref b), (1, .ref (qa g 0)), (2, .ref (qa g 111)), (3, .ref (qa g 126)), (4, .int v4), (5, .int r5)]) dL_law_725 (by decide) rfl ?_
  refine q_norm [1, 2, 3, 4, 5, 6, 0] rfl ?_
  refine q_aload_n C 2 dL_law_727 rfl rfl ?_
  refine q_callVi0 C ltp_111 (qmem_o kd_111 (Nat.le_of_ble_eq_true rfl)) rfl rfl (kX8_thrown S9) lwL_104 rfl (rest := []) rfl (Nat.le_of_ble_eq_true rfl) dL_law_728 ⟨rfl, rfl, Nat.le_of_ble_eq_true rfl, Nat.le_of_ble_eq_true rfl, (by omega : _ ≤ 601024), (by omega : _ ≤ 7293034)⟩ ?_
  refine q_iload C 5 dL_law_731 rfl ?_
  refine q_icmp_eq (tgt := 738) C h dL_law_733 (by decide) (fun h => ?_) (fun h => ?_)
  · refine q_iload C 5 dL_law_738 rfl ?_
    refine q_if_ne (tgt := 755) C h dL_law_740 (by decide) (fun h => ?_) (fun h => ?_)
    · refine q_goto (tgt := 1776) C dL_law_755 (by decide) ?_
      obtain rfl := Option.some.inj h
      refine q_widen (k := c0 + 2) (n := s0 + 12) (by omega) (by omega) ?_
      refine q_norm [0, 1, 2, 3, 4] rfl ?_
      exact hk
    · refine q_aload_n C 3 dL_law_743 rfl rfl ?_
      refine q_iconst (v := 0) C dL_law_744 (by decide) ?_
      refine s_lald C ltp_126 kd_126 (by decide) dL_law_745 ?_
      refine q_iload C 6 dL_law_746 rfl ?_
      refine q_i2l C dL_law_748 rfl ?_
      refine q_lcmp C dL_law_749 ?_
      refine q_if_eq (tgt := 755) C h dL_law_750 (by decide) (fun h => ?_) (fun h => ?_)
      · refine q_goto (tgt := 1776) C dL_law_755 (by decide) ?_
        obtain rfl := Option.some.inj h
        refine q_widen (k := c0 + 2) (n := s0 + 12) (by omega) (by omega) ?_
        refine q_norm [0, 1, 2, 3, 4] rfl ?_
        exact hk
      · cases h
  · cases h
def CL_758 (n : Nat) (xs : Nat → Int32) (L : Nat) (v4 : Int32) (S : qSt) : Option qSt := if qin (v4 + 1) L = true then ob2 (FL_removeStreet n (xs (v4 + 1).toNatClampNeg) S) fun r3 S4 => ob2 (F8_removeStreet n (xs (v4 + 1).toNatClampNeg) S4) fun r6 S7 => if (F8_thrown S7) = r3 then (if ¬ r3 = 0 then (some S7) else (if (lg_cmp ((S7 126 (0 : Int32).toNatClampNeg).toInt64) r6.toInt64) = 0 then (some S7) else (none))) else (none) else none
set_option maxRecDepth 100000 in
set_option maxHeartbeats 4000000 in
theorem WL_758 {S2 : qSt} {Q : State → Prop} {c0 s0 : Nat} (C : qC g cL_law RL 7 p s m meth c) (hl9 : l.stackTraces = false) (hX : va_X b L xs s s.heap) (hbl : b < s.heap.size) (hbA : ¬ qA g b) (hc0 : c0 + 2 ≤ 601024) (hs0 : s0 + 12 ≤ 7293034) (n : Nat) (v4 : Int32) (S : qSt) (h : CL_758 n xs L v4 S = some S2) (hk : qR g NL qT 7 p l e room_1 s m args below meth c (c0 + 2) (s0 + 12) Q (qmem g S2) 1776 [(0, .ref b), (1, .ref (qa g 0)), (2, .ref (qa g 111)), (3, .ref (qa g 126)), (4, .int v4)] []) : qR g NL qT 7 p l e room_1 s m args below meth c c0 s0 Q (qmem g S) 758 [(0, .ref b), (1, .ref (qa g 0)), (2, .ref (qa g 111)), (3, .ref (qa g 126)), (4, .int v4)] [] := by
  unfold CL_758 at h
  refine q_aload_n C 1 dL_law_758 rfl rfl ?_
  refine q_aload_n C 0 dL_law_759 rfl rfl ?_
  refine q_iload C 4 dL_law_760 rfl ?_
  refine q_iconst (v := 1) C dL_law_762 (by decide) ?_
  refine q_iadd C dL_law_763 ?_
  obtain ⟨hb1, h⟩ := q_if h
  refine q_sld C hX hbl hbA hb1 dL_law_764 ?_
  refine q_aload_n C 3 dL_law_765 rfl rfl ?_
  obtain ⟨r3, S4, hc2, h⟩ := ob2_e h
  refine q_callW C (kL_removeStreet hl9 n (xs (v4 + 1).toNatClampNeg) S hc2) lwL_143 rfl (rest := []) rfl (Nat.le_of_ble_eq_true rfl) dL_law_766 ⟨rfl, rfl, Nat.le_of_ble_eq_true rfl, Nat.le_of_ble_eq_true rfl, (by omega : _ ≤ 601024), (by omega : _ ≤ 7293034)⟩ ?_
  refine q_istore C (lv' := [(5, .int r3), (0, .ref b), (1, .ref (qa g 0)), (2, .ref (qa g 111)), (3, .ref (qa g 126)), (4, .int v4)]) dL_law_769 (by decide) rfl ?_
  refine q_norm [1, 2, 3, 4, 5, 0] rfl ?_
  refine q_aload_n C 2 dL_law_771 rfl rfl ?_
  refine q_aload_n C 0 dL_law_772 rfl rfl ?_
  refine q_iload C 4 dL_law_773 rfl ?_
  refine q_iconst (v := 1) C dL_law_775 (by decide) ?_
  refine q_iadd C dL_law_776 ?_
  refine q_sld C hX hbl hbA hb1 dL_law_777 ?_
  obtain ⟨r6, S7, hc5, h⟩ := ob2_e h
  refine q_callVi0 C ltp_111 (qmem_o kd_111 (Nat.le_of_ble_eq_true rfl)) rfl rfl (kX8_removeStreet n (xs (v4 + 1).toNatClampNeg) S4 hc5) lwL_145 rfl (rest := []) rfl (Nat.le_of_ble_eq_true rfl) dL_law_778 ⟨rfl, rfl, Nat.le_of_ble_eq_true rfl, Nat.le_of_ble_eq_true rfl, (by omega : _ ≤ 601024), (by omega : _ ≤ 7293034)⟩ ?_
  refine q_istore C (lv' := [(6, .int r6), (0, .ref b), (1, .ref (qa g 0)), (2, .ref (qa g 111)), (3, .ref (qa g 126)), (4, .int v4), (5, .int r3)]) dL_law_781 (by decide) rfl ?_
  refine q_norm [1, 2, 3, 4, 5, 6, 0] rfl ?_
  refine q_aload_n C 2 dL_law_783 rfl rfl ?_
  refine q_callVi0 C ltp_111 (qmem_o kd_111 (Nat.le_of_ble_eq_true rfl)) rfl rfl (kX8_thrown S7) lwL_104 rfl (rest := []) rfl (Nat.le_of_ble_eq_true rfl) dL_law_784 ⟨rfl, rfl, Nat.le_of_ble_eq_true rfl, Nat.le_of_ble_eq_true rfl, (by omega : _ ≤ 601024), (by omega : _ ≤ 7293034)⟩ ?_
  refine q_iload C 5 dL_law_787 rfl ?_
  refine q_icmp_eq (tgt := 794) C h dL_law_789 (by decide) (fun h => ?_) (fun h => ?_)
  · refine q_iload C 5 dL_law_794 rfl ?_
    refine q_if_ne (tgt := 811) C h dL_law_796 (by decide) (fun h => ?_) (fun h => ?_)
    · refine q_goto (tgt := 1776) C dL_law_811 (by decide) ?_
      obtain rfl := Option.some.inj h
      refine q_widen (k := c0 + 2) (n := s0 + 12) (by omega) (by omega) ?_
      refine q_norm [0, 1, 2, 3, 4] rfl ?_
      exact hk
    · refine q_aload_n C 3 dL_law_799 rfl rfl ?_
      refine q_iconst (v := 0) C dL_law_800 (by decide) ?_
      refine s_lald C ltp_126 kd_126 (by decide) dL_law_801 ?_
      refine q_iload C 6 dL_law_802 rfl ?_
      refine q_i2l C dL_law_804 rfl ?_
      refine q_lcmp C dL_law_805 ?_
      refine q_if_eq (tgt := 811) C h dL_law_806 (by decide) (fun h => ?_) (fun h => ?_)
      · refine q_goto (tgt := 1776) C dL_law_811 (by decide) ?_
        obtain rfl := Option.some.inj h
        refine q_widen (k := c0 + 2) (n := s0 + 12) (by omega) (by omega) ?_
        refine q_norm [0, 1, 2, 3, 4] rfl ?_
        exact hk
      · cases h
  · cases h
def CL_814 (n : Nat) (xs : Nat → Int32) (L : Nat) (v4 : Int32) (S : qSt) : Option qSt := if qin (v4 + 1) L = true then if qin (v4 + 2) L = true then ob2 (FL_setLength n (xs (v4 + 1).toNatClampNeg) (xs (v4 + 2).toNatClampNeg) S) fun r4 S5 => ob2 (F8_setLength n (xs (v4 + 1).toNatClampNeg) (xs (v4 + 2).toNatClampNeg) S5) fun r7 S8 => if (F8_thrown S8) = r4 then (if ¬ r4 = 0 then (some S8) else (if (lg_cmp ((S8 126 (0 : Int32).toNatClampNeg).toInt64) r7.toInt64) = 0 then (some S8) else (none))) else (none) else none else none
set_option maxRecDepth 100000 in
set_option maxHeartbeats 4000000 in
theorem WL_814 {S2 : qSt} {Q : State → Prop} {c0 s0 : Nat} (C : qC g cL_law RL 7 p s m meth c) (hl9 : l.stackTraces = false) (hX : va_X b L xs s s.heap) (hbl : b < s.heap.size) (hbA : ¬ qA g b) (hc0 : c0 + 2 ≤ 601024) (hs0 : s0 + 12 ≤ 7293034) (n : Nat) (v4 : Int32) (S : qSt) (h : CL_814 n xs L v4 S = some S2) (hk : qR g NL qT 7 p l e room_1 s m args below meth c (c0 + 2) (s0 + 12) Q (qmem g S2) 1776 [(0, .ref b), (1, .ref (qa g 0)), (2, .ref (qa g 111)), (3, .ref (qa g 126)), (4, .int v4)] []) : qR g NL qT 7 p l e room_1 s m args below meth c c0 s0 Q (qmem g S) 814 [(0, .ref b), (1, .ref (qa g 0)), (2, .ref (qa g 111)), (3, .ref (qa g 126)), (4, .int v4)] [] := by
  unfold CL_814 at h
  refine q_aload_n C 1 dL_law_814 rfl rfl ?_
  refine q_aload_n C 0 dL_law_815 rfl rfl ?_
  refine q_iload C 4 dL_law_816 rfl ?_
  refine q_iconst (v := 1) C dL_law_818 (by decide) ?_
  refine q_iadd C dL_law_819 ?_
  obtain ⟨hb1, h⟩ := q_if h
  refine q_sld C hX hbl hbA hb1 dL_law_820 ?_
  refine q_aload_n C 0 dL_law_821 rfl rfl ?_
  refine q_iload C 4 dL_law_822 rfl ?_
  refine q_iconst (v := 2) C dL_law_824 (by decide) ?_
  refine q_iadd C dL_law_825 ?_
  obtain ⟨hb2, h⟩ := q_if h
  refine q_sld C hX hbl hbA hb2 dL_law_826 ?_
  refine q_aload_n C 3 dL_law_827 rfl rfl ?_
  obtain ⟨r4, S5, hc3, h⟩ := ob2_e h
  refine q_callW C (kL_setLength hl9 n (xs (v4 + 1).toNatClampNeg) (xs (v4 + 2).toNatClampNeg) S hc3) lwL_146 rfl (rest := []) rfl (Nat.le_of_ble_eq_true rfl) dL_law_828 ⟨rfl, rfl, Nat.le_of_ble_eq_true rfl, Nat.le_of_ble_eq_true rfl, (by omega : _ ≤ 601024), (by omega : _ ≤ 7293034)⟩ ?_
  refine q_istore C (lv' := [(5, .int r4), (0, .ref b), (1, .ref (qa g 0)), (2, .ref (qa g 111)), (3, .ref (qa g 126)), (4, .int v4)]) dL_law_831 (by decide) rfl ?_
  refine q_norm [1, 2, 3, 4, 5, 0] rfl ?_
  refine q_aload_n C 2 dL_law_833 rfl rfl ?_
  refine q_aload_n C 0 dL_law_834 rfl rfl ?_
  refine q_iload C 4 dL_law_835 rfl ?_
  refine q_iconst (v := 1) C dL_law_837 (by decide) ?_
  refine q_iadd C dL_law_838 ?_
  refine q_sld C hX hbl hbA hb1 dL_law_839 ?_
  refine q_aload_n C 0 dL_law_840 rfl rfl ?_
  refine q_iload C 4 dL_law_841 rfl ?_
  refine q_iconst (v := 2) C dL_law_843 (by decide) ?_
  refine q_iadd C dL_law_844 ?_
  refine q_sld C hX hbl hbA hb2 dL_law_845 ?_
  obtain ⟨r7, S8, hc6, h⟩ := ob2_e h
  refine q_callVi0 C ltp_111 (qmem_o kd_111 (Nat.le_of_ble_eq_true rfl)) rfl rfl (kX8_setLength n (xs (v4 + 1).toNatClampNeg) (xs (v4 + 2).toNatClampNeg) S5 hc6) lwL_148 rfl (rest := []) rfl (Nat.le_of_ble_eq_true rfl) dL_law_846 ⟨rfl, rfl, Nat.le_of_ble_eq_true rfl, Nat.le_of_ble_eq_true rfl, (by omega : _ ≤ 601024), (by omega : _ ≤ 7293034)⟩ ?_
  refine q_istore C (lv' := [(6, .int r7), (0, .ref b), (1, .ref (qa g 0)), (2, .ref (qa g 111)), (3, .ref (qa g 126)), (4, .int v4), (5, .int r4)]) dL_law_849 (by decide) rfl ?_
  refine q_norm [1, 2, 3, 4, 5, 6, 0] rfl ?_
  refine q_aload_n C 2 dL_law_851 rfl rfl ?_
  refine q_callVi0 C ltp_111 (qmem_o kd_111 (Nat.le_of_ble_eq_true rfl)) rfl rfl (kX8_thrown S8) lwL_104 rfl (rest := []) rfl (Nat.le_of_ble_eq_true rfl) dL_law_852 ⟨rfl, rfl, Nat.le_of_ble_eq_true rfl, Nat.le_of_ble_eq_true rfl, (by omega : _ ≤ 601024), (by omega : _ ≤ 7293034)⟩ ?_
  refine q_iload C 5 dL_law_855 rfl ?_
  refine q_icmp_eq (tgt := 862) C h dL_law_857 (by decide) (fun h => ?_) (fun h => ?_)
  · refine q_iload C 5 dL_law_862 rfl ?_
    refine q_if_ne (tgt := 879) C h dL_law_864 (by decide) (fun h => ?_) (fun h => ?_)
    · refine q_goto (tgt := 1776) C dL_law_879 (by decide) ?_
      obtain rfl := Option.some.inj h
      refine q_widen (k := c0 + 2) (n := s0 + 12) (by omega) (by omega) ?_
      refine q_norm [0, 1, 2, 3, 4] rfl ?_
      exact hk
    · refine q_aload_n C 3 dL_law_867 rfl rfl ?_
      refine q_iconst (v := 0) C dL_law_868 (by decide) ?_
      refine s_lald C ltp_126 kd_126 (by decide) dL_law_869 ?_
      refine q_iload C 6 dL_law_870 rfl ?_
      refine q_i2l C dL_law_872 rfl ?_
      refine q_lcmp C dL_law_873 ?_
      refine q_if_eq (tgt := 879) C h dL_law_874 (by decide) (fun h => ?_) (fun h => ?_)
      · refine q_goto (tgt := 1776) C dL_law_879 (by decide) ?_
        obtain rfl := Option.some.inj h
        refine q_widen (k := c0 + 2) (n := s0 + 12) (by omega) (by omega) ?_
        refine q_norm [0, 1, 2, 3, 4] rfl ?_
        exact hk
      · cases h
  · cases h
def CL_882 (n : Nat) (xs : Nat → Int32) (L : Nat) (v4 : Int32) (S : qSt) : Option qSt := if qin (v4 + 1) L = true then if qin (v4 + 2) L = true then if (xs (v4 + 2).toNatClampNeg) = 0 then (ob2 (FL_close n (xs (v4 + 1).toNatClampNeg) 0 S) fun r4 S5 => if (xs (v4 + 2).toNatClampNeg) = 0 then (ob2 (F8_close n (xs (v4 + 1).toNatClampNeg) 0 S5) fun r7 S8 => if (F8_thrown S8) = r4 then (if ¬ r4 = 0 then (some S8) else (if (lg_cmp ((S8 126 (0 : Int32).toNatClampNeg).toInt64) r7.toInt64) = 0 then (some S8) else (none))) else (none)) else (ob2 (F8_close n (xs (v4 + 1).toNatClampNeg) 1 S5) fun r13 S14 => if (F8_thrown S14) = r4 then (if ¬ r4 = 0 then (some S14) else (if (lg_cmp ((S14 126 (0 : Int32).toNatClampNeg).toInt64) r13.toInt64) = 0 then (some S14) else (none))) else (none))) else (ob2 (FL_close n (xs (v4 + 1).toNatClampNeg) 1 S) fun r19 S20 => if (xs (v4 + 2).toNatClampNeg) = 0 then (ob2 (F8_close n (xs (v4 + 1).toNatClampNeg) 0 S20) fun r22 S23 => if (F8_thrown S23) = r19 then (if ¬ r19 = 0 then (some S23) else (if (lg_cmp ((S23 126 (0 : Int32).toNatClampNeg).toInt64) r22.toInt64) = 0 then (some S23) else (none))) else (none)) else (ob2 (F8_close n (xs (v4 + 1).toNatClampNeg) 1 S20) fun r28 S29 => if (F8_thrown S29) = r19 then (if ¬ r19 = 0 then (some S29) else (if (lg_cmp ((S29 126 (0 : Int32).toNatClampNeg).toInt64) r28.toInt64) = 0 then (some S29) else (none))) else (none))) else none else none
set_option maxRecDepth 100000 in
set_option maxHeartbeats 4000000 in
theorem WL_882 {S2 : qSt} {Q : State → Prop} {c0 s0 : Nat} (C : qC g cL_law RL 7 p s m meth c) (hl9 : l.stackTraces = false) (hX : va_X b L xs s s.heap) (hbl : b < s.heap.size) (hbA : ¬ qA g b) (hc0 : c0 + 2 ≤ 601024) (hs0 : s0 + 12 ≤ 7293034) (n : Nat) (v4 : Int32) (S : qSt) (h : CL_882 n xs L v4 S = some S2) (hk : qR g NL qT 7 p l e room_1 s m args below meth c (c0 + 2) (s0 + 12) Q (qmem g S2) 1776 [(0, .ref b), (1, .ref (qa g 0)), (2, .ref (qa g 111)), (3, .ref (qa g 126)), (4, .int v4)] []) : qR g NL qT 7 p l e room_1 s m args below meth c c0 s0 Q (qmem g S) 882 [(0, .ref b), (1, .ref (qa g 0)), (2, .ref (qa g 111)), (3, .ref (qa g 126)), (4, .int v4)] [] := by
  unfold CL_882 at h
  refine q_aload_n C 1 dL_law_882 rfl rfl ?_
  refine q_aload_n C 0 dL_law_883 rfl rfl ?_
  refine q_iload C 4 dL_law_884 rfl ?_
  refine q_iconst (v := 1) C dL_law_886 (by decide) ?_
  refine q_iadd C dL_law_887 ?_
  obtain ⟨hb1, h⟩ := q_if h
  refine q_sld C hX hbl hbA hb1 dL_law_888 ?_
  refine q_aload_n C 0 dL_law_889 rfl rfl ?_
  refine q_iload C 4 dL_law_890 rfl ?_
  refine q_iconst (v := 2) C dL_law_892 (by decide) ?_
  refine q_iadd C dL_law_893 ?_
  obtain ⟨hb2, h⟩ := q_if h
  refine q_sld C hX hbl hbA hb2 dL_law_894 ?_
  refine q_if_eq (tgt := 902) C h dL_law_895 (by decide) (fun h => ?_) (fun h => ?_)
  · refine q_iconst (v := 0) C dL_law_902 (by decide) ?_
    refine q_aload_n C 3 dL_law_903 rfl rfl ?_
    obtain ⟨r4, S5, hc3, h⟩ := ob2_e h
    refine q_callW C (kL_close hl9 n (xs (v4 + 1).toNatClampNeg) 0 S hc3) lwL_149 rfl (rest := []) rfl (Nat.le_of_ble_eq_true rfl) dL_law_904 ⟨rfl, rfl, Nat.le_of_ble_eq_true rfl, Nat.le_of_ble_eq_true rfl, (by omega : _ ≤ 601024), (by omega : _ ≤ 7293034)⟩ ?_
    refine q_istore C (lv' := [(5, .int r4), (0, .ref b), (1, .ref (qa g 0)), (2, .ref (qa g 111)), (3, .ref (qa g 126)), (4, .int v4)]) dL_law_907 (by decide) rfl ?_
    refine q_norm [1, 2, 3, 4, 5, 0] rfl ?_
    refine q_aload_n C 2 dL_law_909 rfl rfl ?_
    refine q_aload_n C 0 dL_law_910 rfl rfl ?_
    refine q_iload C 4 dL_law_911 rfl ?_
    refine q_iconst (v := 1) C dL_law_913 (by decide) ?_
    refine q_iadd C dL_law_914 ?_
    refine q_sld C hX hbl hbA hb1 dL_law_915 ?_
    refine q_aload_n C 0 dL_law_916 rfl rfl ?_
    refine q_iload C 4 dL_law_917 rfl ?_
    refine q_iconst (v := 2) C dL_law_919 (by decide) ?_
    refine q_iadd C dL_law_920 ?_
    refine q_sld C hX hbl hbA hb2 dL_law_921 ?_
    refine q_if_eq (tgt := 929) C h dL_law_922 (by decide) (fun h => ?_) (fun h => ?_)
    · refine q_iconst (v := 0) C dL_law_929 (by decide) ?_
      obtain ⟨r7, S8, hc6, h⟩ := ob2_e h
      refine q_callVi0 C ltp_111 (qmem_o kd_111 (Nat.le_of_ble_eq_true rfl)) rfl rfl (kX8_close n (xs (v4 + 1).toNatClampNeg) 0 S5 hc6) lwL_152 rfl (rest := []) rfl (Nat.le_of_ble_eq_true rfl) dL_law_930 ⟨rfl, rfl, Nat.le_of_ble_eq_true rfl, Nat.le_of_ble_eq_true rfl, (by omega : _ ≤ 601024), (by omega : _ ≤ 7293034)⟩ ?_
      refine q_istore C (lv' := [(6, .int r7), (0, .ref b), (1, .ref (qa g 0)), (2, .ref (qa g 111)), (3, .ref (qa g 126)), (4, .int v4), (5, .int r4)]) dL_law_933 (by decide) rfl ?_
      refine q_norm [1, 2, 3, 4, 5, 6, 0] rfl ?_
      refine q_aload_n C 2 dL_law_935 rfl rfl ?_
      refine q_callVi0 C ltp_111 (qmem_o kd_111 (Nat.le_of_ble_eq_true rfl)) rfl rfl (kX8_thrown S8) lwL_104 rfl (rest := []) rfl (Nat.le_of_ble_eq_true rfl) dL_law_936 ⟨rfl, rfl, Nat.le_of_ble_eq_true rfl, Nat.le_of_ble_eq_true rfl, (by omega : _ ≤ 601024), (by omega : _ ≤ 7293034)⟩ ?_
      refine q_iload C 5 dL_law_939 rfl ?_
      refine q_icmp_eq (tgt := 946) C h dL_law_941 (by decide) (fun h => ?_) (fun h => ?_)
      · refine q_iload C 5 dL_law_946 rfl ?_
        refine q_if_ne (tgt := 963) C h dL_law_948 (by decide) (fun h => ?_) (fun h => ?_)
        · refine q_goto (tgt := 1776) C dL_law_963 (by decide) ?_
          obtain rfl := Option.some.inj h
          refine q_widen (k := c0 + 2) (n := s0 + 12) (by omega) (by omega) ?_
          refine q_norm [0, 1, 2, 3, 4] rfl ?_
          exact hk
        · refine q_aload_n C 3 dL_law_951 rfl rfl ?_
          refine q_iconst (v := 0) C dL_law_952 (by decide) ?_
          refine s_lald C ltp_126 kd_126 (by decide) dL_law_953 ?_
          refine q_iload C 6 dL_law_954 rfl ?_
          refine q_i2l C dL_law_956 rfl ?_
          refine q_lcmp C dL_law_957 ?_
          refine q_if_eq (tgt := 963) C h dL_law_958 (by decide) (fun h => ?_) (fun h => ?_)
          · refine q_goto (tgt := 1776) C dL_law_963 (by decide) ?_
            obtain rfl := Option.some.inj h
            refine q_widen (k := c0 + 2) (n := s0 + 12) (by omega) (by omega) ?_
            refine q_norm [0, 1, 2, 3, 4] rfl ?_
            exact hk
          · cases h
      · cases h
    · refine q_iconst (v := 1) C dL_law_925 (by decide) ?_
      refine q_goto (tgt := 930) C dL_law_926 (by decide) ?_
      obtain ⟨r13, S14, hc12, h⟩ := ob2_e h
      refine q_callVi0 C ltp_111 (qmem_o kd_111 (Nat.le_of_ble_eq_true rfl)) rfl rfl (kX8_close n (xs (v4 + 1).toNatClampNeg) 1 S5 hc12) lwL_152 rfl (rest := []) rfl (Nat.le_of_ble_eq_true rfl) dL_law_930 ⟨rfl, rfl, Nat.le_of_ble_eq_true rfl, Nat.le_of_ble_eq_true rfl, (by omega : _ ≤ 601024), (by omega : _ ≤ 7293034)⟩ ?_
      refine q_istore C (lv' := [(6, .int r13), (0, .ref b), (1, .ref (qa g 0)), (2, .ref (qa g 111)), (3, .ref (qa g 126)), (4, .int v4), (5, .int r4)]) dL_law_933 (by decide) rfl ?_
      refine q_norm [1, 2, 3, 4, 5, 6, 0] rfl ?_
      refine q_aload_n C 2 dL_law_935 rfl rfl ?_
      refine q_callVi0 C ltp_111 (qmem_o kd_111 (Nat.le_of_ble_eq_true rfl)) rfl rfl (kX8_thrown S14) lwL_104 rfl (rest := []) rfl (Nat.le_of_ble_eq_true rfl) dL_law_936 ⟨rfl, rfl, Nat.le_of_ble_eq_true rfl, Nat.le_of_ble_eq_true rfl, (by omega : _ ≤ 601024), (by omega : _ ≤ 7293034)⟩ ?_
      refine q_iload C 5 dL_law_939 rfl ?_
      refine q_icmp_eq (tgt := 946) C h dL_law_941 (by decide) (fun h => ?_) (fun h => ?_)
      · refine q_iload C 5 dL_law_946 rfl ?_
        refine q_if_ne (tgt := 963) C h dL_law_948 (by decide) (fun h => ?_) (fun h => ?_)
        · refine q_goto (tgt := 1776) C dL_law_963 (by decide) ?_
          obtain rfl := Option.some.inj h
          refine q_widen (k := c0 + 2) (n := s0 + 12) (by omega) (by omega) ?_
          refine q_norm [0, 1, 2, 3, 4] rfl ?_
          exact hk
        · refine q_aload_n C 3 dL_law_951 rfl rfl ?_
          refine q_iconst (v := 0) C dL_law_952 (by decide) ?_
          refine s_lald C ltp_126 kd_126 (by decide) dL_law_953 ?_
          refine q_iload C 6 dL_law_954 rfl ?_
          refine q_i2l C dL_law_956 rfl ?_
          refine q_lcmp C dL_law_957 ?_
          refine q_if_eq (tgt := 963) C h dL_law_958 (by decide) (fun h => ?_) (fun h => ?_)
          · refine q_goto (tgt := 1776) C dL_law_963 (by decide) ?_
            obtain rfl := Option.some.inj h
            refine q_widen (k := c0 + 2) (n := s0 + 12) (by omega) (by omega) ?_
            refine q_norm [0, 1, 2, 3, 4] rfl ?_
            exact hk
          · cases h
      · cases h
  · refine q_iconst (v := 1) C dL_law_898 (by decide) ?_
    refine q_goto (tgt := 903) C dL_law_899 (by decide) ?_
    refine q_aload_n C 3 dL_law_903 rfl rfl ?_
    obtain ⟨r19, S20, hc18, h⟩ := ob2_e h
    refine q_callW C (kL_close hl9 n (xs (v4 + 1).toNatClampNeg) 1 S hc18) lwL_149 rfl (rest := []) rfl (Nat.le_of_ble_eq_true rfl) dL_law_904 ⟨rfl, rfl, Nat.le_of_ble_eq_true rfl, Nat.le_of_ble_eq_true rfl, (by omega : _ ≤ 601024), (by omega : _ ≤ 7293034)⟩ ?_
    refine q_istore C (lv' := [(5, .int r19), (0, .ref b), (1, .ref (qa g 0)), (2, .ref (qa g 111)), (3, .ref (qa g 126)), (4, .int v4)]) dL_law_907 (by decide) rfl ?_
    refine q_norm [1, 2, 3, 4, 5, 0] rfl ?_
    refine q_aload_n C 2 dL_law_909 rfl rfl ?_
    refine q_aload_n C 0 dL_law_910 rfl rfl ?_
    refine q_iload C 4 dL_law_911 rfl ?_
    refine q_iconst (v := 1) C dL_law_913 (by decide) ?_
    refine q_iadd C dL_law_914 ?_
    refine q_sld C hX hbl hbA hb1 dL_law_915 ?_
    refine q_aload_n C 0 dL_law_916 rfl rfl ?_
    refine q_iload C 4 dL_law_917 rfl ?_
    refine q_iconst (v := 2) C dL_law_919 (by decide) ?_
    refine q_iadd C dL_law_920 ?_
    refine q_sld C hX hbl hbA hb2 dL_law_921 ?_
    refine q_if_eq (tgt := 929) C h dL_law_922 (by decide) (fun h => ?_) (fun h => ?_)
    · refine q_iconst (v := 0) C dL_law_929 (by decide) ?_
      obtain ⟨r22, S23, hc21, h⟩ := ob2_e h
      refine q_callVi0 C ltp_111 (qmem_o kd_111 (Nat.le_of_ble_eq_true rfl)) rfl rfl (kX8_close n (xs (v4 + 1).toNatClampNeg) 0 S20 hc21) lwL_152 rfl (rest := []) rfl (Nat.le_of_ble_eq_true rfl) dL_law_930 ⟨rfl, rfl, Nat.le_of_ble_eq_true rfl, Nat.le_of_ble_eq_true rfl, (by omega : _ ≤ 601024), (by omega : _ ≤ 7293034)⟩ ?_
      refine q_istore C (lv' := [(6, .int r22), (0, .ref b), (1, .ref (qa g 0)), (2, .ref (qa g 111)), (3, .ref (qa g 126)), (4, .int v4), (5, .int r19)]) dL_law_933 (by decide) rfl ?_
      refine q_norm [1, 2, 3, 4, 5, 6, 0] rfl ?_
      refine q_aload_n C 2 dL_law_935 rfl rfl ?_
      refine q_callVi0 C ltp_111 (qmem_o kd_111 (Nat.le_of_ble_eq_true rfl)) rfl rfl (kX8_thrown S23) lwL_104 rfl (rest := []) rfl (Nat.le_of_ble_eq_true rfl) dL_law_936 ⟨rfl, rfl, Nat.le_of_ble_eq_true rfl, Nat.le_of_ble_eq_true rfl, (by omega : _ ≤ 601024), (by omega : _ ≤ 7293034)⟩ ?_
      refine q_iload C 5 dL_law_939 rfl ?_
      refine q_icmp_eq (tgt := 946) C h dL_law_941 (by decide) (fun h => ?_) (fun h => ?_)
      · refine q_iload C 5 dL_law_946 rfl ?_
        refine q_if_ne (tgt := 963) C h dL_law_948 (by decide) (fun h => ?_) (fun h => ?_)
        · refine q_goto (tgt := 1776) C dL_law_963 (by decide) ?_
          obtain rfl := Option.some.inj h
          refine q_widen (k := c0 + 2) (n := s0 + 12) (by omega) (by omega) ?_
          refine q_norm [0, 1, 2, 3, 4] rfl ?_
          exact hk
        · refine q_aload_n C 3 dL_law_951 rfl rfl ?_
          refine q_iconst (v := 0) C dL_law_952 (by decide) ?_
          refine s_lald C ltp_126 kd_126 (by decide) dL_law_953 ?_
          refine q_iload C 6 dL_law_954 rfl ?_
          refine q_i2l C dL_law_956 rfl ?_
          refine q_lcmp C dL_law_957 ?_
          refine q_if_eq (tgt := 963) C h dL_law_958 (by decide) (fun h => ?_) (fun h => ?_)
          · refine q_goto (tgt := 1776) C dL_law_963 (by decide) ?_
            obtain rfl := Option.some.inj h
            refine q_widen (k := c0 + 2) (n := s0 + 12) (by omega) (by omega) ?_
            refine q_norm [0, 1, 2, 3, 4] rfl ?_
            exact hk
          · cases h
      · cases h
    · refine q_iconst (v := 1) C dL_law_925 (by decide) ?_
      refine q_goto (tgt := 930) C dL_law_926 (by decide) ?_
      obtain ⟨r28, S29, hc27, h⟩ := ob2_e h
      refine q_callVi0 C ltp_111 (qmem_o kd_111 (Nat.le_of_ble_eq_true rfl)) rfl rfl (kX8_close n (xs (v4 + 1).toNatClampNeg) 1 S20 hc27) lwL_152 rfl (rest := []) rfl (Nat.le_of_ble_eq_true rfl) dL_law_930 ⟨rfl, rfl, Nat.le_of_ble_eq_true rfl, Nat.le_of_ble_eq_true rfl, (by omega : _ ≤ 601024), (by omega : _ ≤ 7293034)⟩ ?_
      refine q_istore C (lv' := [(6, .int r28), (0, .ref b), (1, .ref (qa g 0)), (2, .ref (qa g 111)), (3, .ref (qa g 126)), (4, .int v4), (5, .int r19)]) dL_law_933 (by decide) rfl ?_
      refine q_norm [1, 2, 3, 4, 5, 6, 0] rfl ?_
      refine q_aload_n C 2 dL_law_935 rfl rfl ?_
      refine q_callVi0 C ltp_111 (qmem_o kd_111 (Nat.le_of_ble_eq_true rfl)) rfl rfl (kX8_thrown S29) lwL_104 rfl (rest := []) rfl (Nat.le_of_ble_eq_true rfl) dL_law_936 ⟨rfl, rfl, Nat.le_of_ble_eq_true rfl, Nat.le_of_ble_eq_true rfl, (by omega : _ ≤ 601024), (by omega : _ ≤ 7293034)⟩ ?_
      refine q_iload C 5 dL_law_939 rfl ?_
      refine q_icmp_eq (tgt := 946) C h dL_law_941 (by decide) (fun h => ?_) (fun h => ?_)
      · refine q_iload C 5 dL_law_946 rfl ?_
        refine q_if_ne (tgt := 963) C h dL_law_948 (by decide) (fun h => ?_) (fun h => ?_)
        · refine q_goto (tgt := 1776) C dL_law_963 (by decide) ?_
          obtain rfl := Option.some.inj h
          refine q_widen (k := c0 + 2) (n := s0 + 12) (by omega) (by omega) ?_
          refine q_norm [0, 1, 2, 3, 4] rfl ?_
          exact hk
        · refine q_aload_n C 3 dL_law_951 rfl rfl ?_
          refine q_iconst (v := 0) C dL_law_952 (by decide) ?_
          refine s_lald C ltp_126 kd_126 (by decide) dL_law_953 ?_
          refine q_iload C 6 dL_law_954 rfl ?_
          refine q_i2l C dL_law_956 rfl ?_
          refine q_lcmp C dL_law_957 ?_
          refine q_if_eq (tgt := 963) C h dL_law_958 (by decide) (fun h => ?_) (fun h => ?_)
          · refine q_goto (tgt := 1776) C dL_law_963 (by decide) ?_
            obtain rfl := Option.some.inj h
            refine q_widen (k := c0 + 2) (n := s0 + 12) (by omega) (by omega) ?_
            refine q_norm [0, 1, 2, 3, 4] rfl ?_
            exact hk
          · cases h
      · cases h
def CL_966 (n : Nat) (xs : Nat → Int32) (L : Nat) (v4 : Int32) (S : qSt) : Option qSt := if qin (v4 + 1) L = true then if qin (v4 + 2) L = true then ob2 (FL_setEnds n (xs (v4 + 1).toNatClampNeg) (xs (v4 + 2).toNatClampNeg) S) fun r4 S5 => ob2 (F8_setEnds n (xs (v4 + 1).toNatClampNeg) (xs (v4 + 2).toNatClampNeg) S5) fun r7 S8 => if (F8_thrown S8) = r4 then (if ¬ r4 = 0 then (some S8) else (if (lg_cmp ((S8 126 (0 : Int32).toNatClampNeg).toInt64) r7.toInt64) = 0 then (some S8) else (none))) else (none) else none else none
set_option maxRecDepth 100000 in
set_option maxHeartbeats 4000000 in
theorem WL_966 {S2 : qSt} {Q : State → Prop} {c0 s0 : Nat} (C : qC g cL_law RL 7 p s m meth c) (hl9 : l.stackTraces = false) (hX : va_X b L xs s s.heap) (hbl : b < s.heap.size) (hbA : ¬ qA g b) (hc0 : c0 + 2 ≤ 601024) (hs0 : s0 + 12 ≤ 7293034) (n : Nat) (v4 : Int32) (S : qSt) (h : CL_966 n xs L v4 S = some S2) (hk : qR g NL qT 7 p l e room_1 s m args below meth c (c0 + 2) (s0 + 12) Q (qmem g S2) 1776 [(0, .ref b), (1, .ref (qa g 0)), (2, .ref (qa g 111)), (3, .ref (qa g 126)), (4, .int v4)] []) : qR g NL qT 7 p l e room_1 s m args below meth c c0 s0 Q (qmem g S) 966 [(0, .ref b), (1, .ref (qa g 0)), (2, .ref (qa g 111)), (3, .ref (qa g 126)), (4, .int v4)] [] := by
  unfold CL_966 at h
  refine q_aload_n C 1 dL_law_966 rfl rfl ?_
  refine q_aload_n C 0 dL_law_967 rfl rfl ?_
  refine q_iload C 4 dL_law_968 rfl ?_
  refine q_iconst (v := 1) C dL_law_970 (by decide) ?_
  refine q_iadd C dL_law_971 ?_
  obtain ⟨hb1, h⟩ := q_if h
  refine q_sld C hX hbl hbA hb1 dL_law_972 ?_
  refine q_aload_n C 0 dL_law_973 rfl rfl ?_
  refine q_iload C 4 dL_law_974 rfl ?_
  refine q_iconst (v := 2) C dL_law_976 (by decide) ?_
  refine q_iadd C dL_law_977 ?_
  obtain ⟨hb2, h⟩ := q_if h
  refine q_sld C hX hbl hbA hb2 dL_law_978 ?_
  refine q_aload_n C 3 dL_law_979 rfl rfl ?_
  obtain ⟨r4, S5, hc3, h⟩ := ob2_e h
  refine q_callW C (kL_setEnds hl9 n (xs (v4 + 1).toNatClampNeg) (xs (v4 + 2).toNatClampNeg) S hc3) lwL_153 rfl (rest := []) rfl (Nat.le_of_ble_eq_true rfl) dL_law_980 ⟨rfl, rfl, Nat.le_of_ble_eq_true rfl, Nat.le_of_ble_eq_true rfl, (by omega : _ ≤ 601024), (by omega : _ ≤ 7293034)⟩ ?_
  refine q_istore C (lv' := [(5, .int r4), (0, .ref b), (1, .ref (qa g 0)), (2, .ref (qa g 111)), (3, .ref (qa g 126)), (4, .int v4)]) dL_law_983 (by decide) rfl ?_
  refine q_norm [1, 2, 3, 4, 5, 0] rfl ?_
  refine q_aload_n C 2 dL_law_985 rfl rfl ?_
  refine q_aload_n C 0 dL_law_986 rfl rfl ?_
  refine q_iload C 4 dL_law_987 rfl ?_
  refine q_iconst (v := 1) C dL_law_989 (by decide) ?_
  refine q_iadd C dL_law_990 ?_
  refine q_sld C hX hbl hbA hb1 dL_law_991 ?_
  refine q_aload_n C 0 dL_law_992 rfl rfl ?_
  refine q_iload C 4 dL_law_993 rfl ?_
  refine q_iconst (v := 2) C dL_law_995 (by decide) ?_
  refine q_iadd C dL_law_996 ?_
  refine q_sld C hX hbl hbA hb2 dL_law_997 ?_
  obtain ⟨r7, S8, hc6, h⟩ := ob2_e h
  refine q_callVi0 C ltp_111 (qmem_o kd_111 (Nat.le_of_ble_eq_true rfl)) rfl rfl (kX8_setEnds n (xs (v4 + 1).toNatClampNeg) (xs (v4 + 2).toNatClampNeg) S5 hc6) lwL_155 rfl (rest := []) rfl (Nat.le_of_ble_eq_true rfl) dL_law_998 ⟨rfl, rfl, Nat.le_of_ble_eq_true rfl, Nat.le_of_ble_eq_true rfl, (by omega : _ ≤ 601024), (by omega : _ ≤ 7293034)⟩ ?_
  refine q_istore C (lv' := [(6, .int r7), (0, .ref b), (1, .ref (qa g 0)), (2, .ref (qa g 111)), (3, .ref (qa g 126)), (4, .int v4), (5, .int r4)]) dL_law_1001 (by decide) rfl ?_
  refine q_norm [1, 2, 3, 4, 5, 6, 0] rfl ?_
  refine q_aload_n C 2 dL_law_1003 rfl rfl ?_
  refine q_callVi0 C ltp_111 (qmem_o kd_111 (Nat.le_of_ble_eq_true rfl)) rfl rfl (kX8_thrown S8) lwL_104 rfl (rest := []) rfl (Nat.le_of_ble_eq_true rfl) dL_law_1004 ⟨rfl, rfl, Nat.le_of_ble_eq_true rfl, Nat.le_of_ble_eq_true rfl, (by omega : _ ≤ 601024), (by omega : _ ≤ 7293034)⟩ ?_
  refine q_iload C 5 dL_law_1007 rfl ?_
  refine q_icmp_eq (tgt := 1014) C h dL_law_1009 (by decide) (fun h => ?_) (fun h => ?_)
  · refine q_iload C 5 dL_law_1014 rfl ?_
    refine q_if_ne (tgt := 1031) C h dL_law_1016 (by decide) (fun h => ?_) (fun h => ?_)
    · refine q_goto (tgt := 1776) C dL_law_1031 (by decide) ?_
      obtain rfl := Option.some.inj h
      refine q_widen (k := c0 + 2) (n := s0 + 12) (by omega) (by omega) ?_
      refine q_norm [0, 1, 2, 3, 4] rfl ?_
      exact hk
    · refine q_aload_n C 3 dL_law_1019 rfl rfl ?_
      refine q_iconst (v := 0) C dL_law_1020 (by decide) ?_
      refine s_lald C ltp_126 kd_126 (by decide) dL_law_1021 ?_
      refine q_iload C 6 dL_law_1022 rfl ?_
      refine q_i2l C dL_law_1024 rfl ?_
      refine q_lcmp C dL_law_1025 ?_
      refine q_if_eq (tgt := 1031) C h dL_law_1026 (by decide) (fun h => ?_) (fun h => ?_)
      · refine q_goto (tgt := 1776) C dL_law_1031 (by decide) ?_
        obtain rfl := Option.some.inj h
        refine q_widen (k := c0 + 2) (n := s0 + 12) (by omega) (by omega) ?_
        refine q_norm [0, 1, 2, 3, 4] rfl ?_
        exact hk
      · cases h
  · cases h
def CL_1034 (n : Nat) (xs : Nat → Int32) (L : Nat) (v4 : Int32) (S : qSt) : Option qSt := ob2 (FL_runPlan n S) fun r2 S3 => ob2 (F8_runPlan n S3) fun r5 S6 => if (F8_thrown S6) = r2 then (if ¬ r2 = 0 then (some S6) else (if (lg_cmp ((S6 126 (0 : Int32).toNatClampNeg).toInt64) r5.toInt64) = 0 then (some S6) else (none))) else (none)
set_option maxRecDepth 100000 in
set_option maxHeartbeats 4000000 in
theorem WL_1034 {S2 : qSt} {Q : State → Prop} {c0 s0 : Nat} (C : qC g cL_law RL 7 p s m meth c) (hl9 : l.stackTraces = false) (hX : va_X b L xs s s.heap) (hbl : b < s.heap.size) (hbA : ¬ qA g b) (hc0 : c0 + 2 ≤ 601024) (hs0 : s0 + 12 ≤ 7293034) (n : Nat) (v4 : Int32) (S : qSt) (h : CL_1034 n xs L v4 S = some S2) (hk : qR g NL qT 7 p l e room_1 s m args below meth c (c0 + 2) (s0 + 12) Q (qmem g S2) 1776 [(0, .ref b), (1, .ref (qa g 0)), (2, .ref (qa g 111)), (3, .ref (qa g 126)), (4, .int v4)] []) : qR g NL qT 7 p l e room_1 s m args below meth c c0 s0 Q (qmem g S) 1034 [(0, .ref b), (1, .ref (qa g 0)), (2, .ref (qa g 111)), (3, .ref (qa g 126)), (4, .int v4)] [] := by
  unfold CL_1034 at h
  refine q_aload_n C 1 dL_law_1034 rfl rfl ?_
  refine q_aload_n C 3 dL_law_1035 rfl rfl ?_
  obtain ⟨r2, S3, hc1, h⟩ := ob2_e h
  refine q_callW C (kL_runPlan hl9 n S hc1) lwL_156 rfl (rest := []) rfl (Nat.le_of_ble_eq_true rfl) dL_law_1036 ⟨rfl, rfl, Nat.le_of_ble_eq_true rfl, Nat.le_of_ble_eq_true rfl, (by omega : _ ≤ 601024), (by omega : _ ≤ 7293034)⟩ ?_
  refine q_istore C (lv' := [(5, .int r2), (0, .ref b), (1, .ref (qa g 0)), (2, .ref (qa g 111)), (3, .ref (qa g 126)), (4, .int v4)]) dL_law_1039 (by decide) rfl ?_
  refine q_norm [1, 2, 3, 4, 5, 0] rfl ?_
  refine q_aload_n C 2 dL_law_1041 rfl rfl ?_
  obtain ⟨r5, S6, hc4, h⟩ := ob2_e h
  refine q_callVi0 C ltp_111 (qmem_o kd_111 (Nat.le_of_ble_eq_true rfl)) rfl rfl (kX8_runPlan n S3 hc4) lwL_158 rfl (rest := []) rfl (Nat.le_of_ble_eq_true rfl) dL_law_1042 ⟨rfl, rfl, Nat.le_of_ble_eq_true rfl, Nat.le_of_ble_eq_true rfl, (by omega : _ ≤ 601024), (by omega : _ ≤ 7293034)⟩ ?_
  refine q_istore C (lv' := [(6, .int r5), (0, .ref b), (1, .ref (qa g 0)), (2, .ref (qa g 111)), (3, .ref (qa g 126)), (4, .int v4), (5, .int r2)]) dL_law_1045 (by decide) rfl ?_
  refine q_norm [1, 2, 3, 4, 5, 6, 0] rfl ?_
  refine q_aload_n C 2 dL_law_1047 rfl rfl ?_
  refine q_callVi0 C ltp_111 (qmem_o kd_111 (Nat.le_of_ble_eq_true rfl)) rfl rfl (kX8_thrown S6) lwL_104 rfl (rest := []) rfl (Nat.le_of_ble_eq_true rfl) dL_law_1048 ⟨rfl, rfl, Nat.le_of_ble_eq_true rfl, Nat.le_of_ble_eq_true rfl, (by omega : _ ≤ 601024), (by omega : _ ≤ 7293034)⟩ ?_
  refine q_iload C 5 dL_law_1051 rfl ?_
  refine q_icmp_eq (tgt := 1058) C h dL_law_1053 (by decide) (fun h => ?_) (fun h => ?_)
  · refine q_iload C 5 dL_law_1058 rfl ?_
    refine q_if_ne (tgt := 1075) C h dL_law_1060 (by decide) (fun h => ?_) (fun h => ?_)
    · refine q_goto (tgt := 1776) C dL_law_1075 (by decide) ?_
      obtain rfl := Option.some.inj h
      refine q_widen (k := c0 + 2) (n := s0 + 12) (by omega) (by omega) ?_
      refine q_norm [0, 1, 2, 3, 4] rfl ?_
      exact hk
    · refine q_aload_n C 3 dL_law_1063 rfl rfl ?_
      refine q_iconst (v := 0) C dL_law_1064 (by decide) ?_
      refine s_lald C ltp_126 kd_126 (by decide) dL_law_1065 ?_
      refine q_iload C 6 dL_law_1066 rfl ?_
      refine q_i2l C dL_law_1068 rfl ?_
      refine q_lcmp C dL_law_1069 ?_
      refine q_if_eq (tgt := 1075) C h dL_law_1070 (by decide) (fun h => ?_) (fun h => ?_)
      · refine q_goto (tgt := 1776) C dL_law_1075 (by decide) ?_
        obtain rfl := Option.some.inj h
        refine q_widen (k := c0 + 2) (n := s0 + 12) (by omega) (by omega) ?_
        refine q_norm [0, 1, 2, 3, 4] rfl ?_
        exact hk
      · cases h
  · cases h
def CL_1078 (n : Nat) (xs : Nat → Int32) (L : Nat) (v4 : Int32) (S : qSt) : Option qSt := ob2 (FL_undo n S) fun r2 S3 => ob2 (F8_undo n S3) fun r5 S6 => if (F8_thrown S6) = r2 then (if ¬ r2 = 0 then (some S6) else (if (lg_cmp ((S6 126 (0 : Int32).toNatClampNeg).toInt64) r5.toInt64) = 0 then (some S6) else (none))) else (none)
set_option maxRecDepth 100000 in
set_option maxHeartbeats 4000000 in
theorem WL_1078 {S2 : qSt} {Q : State → Prop} {c0 s0 : Nat} (C : qC g cL_law RL 7 p s m meth c) (hl9 : l.stackTraces = false) (hX : va_X b L xs s s.heap) (hbl : b < s.heap.size) (hbA : ¬ qA g b) (hc0 : c0 + 2 ≤ 601024) (hs0 : s0 + 12 ≤ 7293034) (n : Nat) (v4 : Int32) (S : qSt) (h : CL_1078 n xs L v4 S = some S2) (hk : qR g NL qT 7 p l e room_1 s m args below meth c (c0 + 2) (s0 + 12) Q (qmem g S2) 1776 [(0, .ref b), (1, .ref (qa g 0)), (2, .ref (qa g 111)), (3, .ref (qa g 126)), (4, .int v4)] []) : qR g NL qT 7 p l e room_1 s m args below meth c c0 s0 Q (qmem g S) 1078 [(0, .ref b), (1, .ref (qa g 0)), (2, .ref (qa g 111)), (3, .ref (qa g 126)), (4, .int v4)] [] := by
  unfold CL_1078 at h
  refine q_aload_n C 1 dL_law_1078 rfl rfl ?_
  refine q_aload_n C 3 dL_law_1079 rfl rfl ?_
  obtain ⟨r2, S3, hc1, h⟩ := ob2_e h
  refine q_callW C (kL_undo hl9 n S hc1) lwL_159 rfl (rest := []) rfl (Nat.le_of_ble_eq_true rfl) dL_law_1080 ⟨rfl, rfl, Nat.le_of_ble_eq_true rfl, Nat.le_of_ble_eq_true rfl, (by omega : _ ≤ 601024), (by omega : _ ≤ 7293034)⟩ ?_
  refine q_istore C (lv' := [(5, .int r2), (0, .ref b), (1, .ref (qa g 0)), (2, .ref (qa g 111)), (3, .ref (qa g 126)), (4, .int v4)]) dL_law_1083 (by decide) rfl ?_
  refine q_norm [1, 2, 3, 4, 5, 0] rfl ?_
  refine q_aload_n C 2 dL_law_1085 rfl rfl ?_
  obtain ⟨r5, S6, hc4, h⟩ := ob2_e h
  refine q_callVi0 C ltp_111 (qmem_o kd_111 (Nat.le_of_ble_eq_true rfl)) rfl rfl (kX8_undo n S3 hc4) lwL_161 rfl (rest := []) rfl (Nat.le_of_ble_eq_true rfl) dL_law_1086 ⟨rfl, rfl, Nat.le_of_ble_eq_true rfl, Nat.le_of_ble_eq_true rfl, (by omega : _ ≤ 601024), (by omega : _ ≤ 7293034)⟩ ?_
  refine q_istore C (lv' := [(6, .int r5), (0, .ref b), (1, .ref (qa g 0)), (2, .ref (qa g 111)), (3, .ref (qa g 126)), (4, .int v4), (5, .int r2)]) dL_law_1089 (by decide) rfl ?_
  refine q_norm [1, 2, 3, 4, 5, 6, 0] rfl ?_
  refine q_aload_n C 2 dL_law_1091 rfl rfl ?_
  refine q_callVi0 C ltp_111 (qmem_o kd_111 (Nat.le_of_ble_eq_true rfl)) rfl rfl (kX8_thrown S6) lwL_104 rfl (rest := []) rfl (Nat.le_of_ble_eq_true rfl) dL_law_1092 ⟨rfl, rfl, Nat.le_of_ble_eq_true rfl, Nat.le_of_ble_eq_true rfl, (by omega : _ ≤ 601024), (by omega : _ ≤ 7293034)⟩ ?_
  refine q_iload C 5 dL_law_1095 rfl ?_
  refine q_icmp_eq (tgt := 1102) C h dL_law_1097 (by decide) (fun h => ?_) (fun h => ?_)
  · refine q_iload C 5 dL_law_1102 rfl ?_
    refine q_if_ne (tgt := 1119) C h dL_law_1104 (by decide) (fun h => ?_) (fun h => ?_)
    · refine q_goto (tgt := 1776) C dL_law_1119 (by decide) ?_
      obtain rfl := Option.some.inj h
      refine q_widen (k := c0 + 2) (n := s0 + 12) (by omega) (by omega) ?_
      refine q_norm [0, 1, 2, 3, 4] rfl ?_
      exact hk
    · refine q_aload_n C 3 dL_law_1107 rfl rfl ?_
      refine q_iconst (v := 0) C dL_law_1108 (by decide) ?_
      refine s_lald C ltp_126 kd_126 (by decide) dL_law_1109 ?_
      refine q_iload C 6 dL_law_1110 rfl ?_
      refine q_i2l C dL_law_1112 rfl ?_
      refine q_lcmp C dL_law_1113 ?_
      refine q_if_eq (tgt := 1119) C h dL_law_1114 (by decide) (fun h => ?_) (fun h => ?_)
      · refine q_goto (tgt := 1776) C dL_law_1119 (by decide) ?_
        obtain rfl := Option.some.inj h
        refine q_widen (k := c0 + 2) (n := s0 + 12) (by omega) (by omega) ?_
        refine q_norm [0, 1, 2, 3, 4] rfl ?_
        exact hk
      · cases h
  · cases h
def CL_1122 (n : Nat) (xs : Nat → Int32) (L : Nat) (v4 : Int32) (S : qSt) : Option qSt := if qin (v4 + 1) L = true then ob2 (FL_without n (xs (v4 + 1).toNatClampNeg) S) fun r3 S4 => ob2 (F8_without n (xs (v4 + 1).toNatClampNeg) S4) fun r6 S7 => if (F8_thrown S7) = r3 then (if ¬ r3 = 0 then (some S7) else (if (lg_cmp ((S7 126 (0 : Int32).toNatClampNeg).toInt64) r6.toInt64) = 0 then (some S7) else (none))) else (none) else none
set_option maxRecDepth 100000 in
set_option maxHeartbeats 4000000 in
theorem WL_1122 {S2 : qSt} {Q : State → Prop} {c0 s0 : Nat} (C : qC g cL_law RL 7 p s m meth c) (hl9 : l.stackTraces = false) (hX : va_X b L xs s s.heap) (hbl : b < s.heap.size) (hbA : ¬ qA g b) (hc0 : c0 + 2 ≤ 601024) (hs0 : s0 + 12 ≤ 7293034) (n : Nat) (v4 : Int32) (S : qSt) (h : CL_1122 n xs L v4 S = some S2) (hk : qR g NL qT 7 p l e room_1 s m args below meth c (c0 + 2) (s0 + 12) Q (qmem g S2) 1776 [(0, .ref b), (1, .ref (qa g 0)), (2, .ref (qa g 111)), (3, .ref (qa g 126)), (4, .int v4)] []) : qR g NL qT 7 p l e room_1 s m args below meth c c0 s0 Q (qmem g S) 1122 [(0, .ref b), (1, .ref (qa g 0)), (2, .ref (qa g 111)), (3, .ref (qa g 126)), (4, .int v4)] [] := by
  unfold CL_1122 at h
  refine q_aload_n C 1 dL_law_1122 rfl rfl ?_
  refine q_aload_n C 0 dL_law_1123 rfl rfl ?_
  refine q_iload C 4 dL_law_1124 rfl ?_
  refine q_iconst (v := 1) C dL_law_1126 (by decide) ?_
  refine q_iadd C dL_law_1127 ?_
  obtain ⟨hb1, h⟩ := q_if h
  refine q_sld C hX hbl hbA hb1 dL_law_1128 ?_
  refine q_aload_n C 3 dL_law_1129 rfl rfl ?_
  obtain ⟨r3, S4, hc2, h⟩ := ob2_e h
  refine q_callW C (kL_without hl9 n (xs (v4 + 1).toNatClampNeg) S hc2) lwL_162 rfl (rest := []) rfl (Nat.le_of_ble_eq_true rfl) dL_law_1130 ⟨rfl, rfl, Nat.le_of_ble_eq_true rfl, Nat.le_of_ble_eq_true rfl, (by omega : _ ≤ 601024), (by omega : _ ≤ 7293034)⟩ ?_
  refine q_istore C (lv' := [(5, .int r3), (0, .ref b), (1, .ref (qa g 0)), (2, .ref (qa g 111)), (3, .ref (qa g 126)), (4, .int v4)]) dL_law_1133 (by decide) rfl ?_
  refine q_norm [1, 2, 3, 4, 5, 0] rfl ?_
  refine q_aload_n C 2 dL_law_1135 rfl rfl ?_
  refine q_aload_n C 0 dL_law_1136 rfl rfl ?_
  refine q_iload C 4 dL_law_1137 rfl ?_
  refine q_iconst (v := 1) C dL_law_1139 (by decide) ?_
  refine q_iadd C dL_law_1140 ?_
  refine q_sld C hX hbl hbA hb1 dL_law_1141 ?_
  obtain ⟨r6, S7, hc5, h⟩ := ob2_e h
  refine q_callVi0 C ltp_111 (qmem_o kd_111 (Nat.le_of_ble_eq_true rfl)) rfl rfl (kX8_without n (xs (v4 + 1).toNatClampNeg) S4 hc5) lwL_164 rfl (rest := []) rfl (Nat.le_of_ble_eq_true rfl) dL_law_1142 ⟨rfl, rfl, Nat.le_of_ble_eq_true rfl, Nat.le_of_ble_eq_true rfl, (by omega : _ ≤ 601024), (by omega : _ ≤ 7293034)⟩ ?_
  refine q_istore C (lv' := [(6, .int r6), (0, .ref b), (1, .ref (qa g 0)), (2, .ref (qa g 111)), (3, .ref (qa g 126)), (4, .int v4), (5, .int r3)]) dL_law_1145 (by decide) rfl ?_
  refine q_norm [1, 2, 3, 4, 5, 6, 0] rfl ?_
  refine q_aload_n C 2 dL_law_1147 rfl rfl ?_
  refine q_callVi0 C ltp_111 (qmem_o kd_111 (Nat.le_of_ble_eq_true rfl)) rfl rfl (kX8_thrown S7) lwL_104 rfl (rest := []) rfl (Nat.le_of_ble_eq_true rfl) dL_law_1148 ⟨rfl, rfl, Nat.le_of_ble_eq_true rfl, Nat.le_of_ble_eq_true rfl, (by omega : _ ≤ 601024), (by omega : _ ≤ 7293034)⟩ ?_
  refine q_iload C 5 dL_law_1151 rfl ?_
  refine q_icmp_eq (tgt := 1158) C h dL_law_1153 (by decide) (fun h => ?_) (fun h => ?_)
  · refine q_iload C 5 dL_law_1158 rfl ?_
    refine q_if_ne (tgt := 1175) C h dL_law_1160 (by decide) (fun h => ?_) (fun h => ?_)
    · refine q_goto (tgt := 1776) C dL_law_1175 (by decide) ?_
      obtain rfl := Option.some.inj h
      refine q_widen (k := c0 + 2) (n := s0 + 12) (by omega) (by omega) ?_
      refine q_norm [0, 1, 2, 3, 4] rfl ?_
      exact hk
    · refine q_aload_n C 3 dL_law_1163 rfl rfl ?_
      refine q_iconst (v := 0) C dL_law_1164 (by decide) ?_
      refine s_lald C ltp_126 kd_126 (by decide) dL_law_1165 ?_
      refine q_iload C 6 dL_law_1166 rfl ?_
      refine q_i2l C dL_law_1168 rfl ?_
      refine q_lcmp C dL_law_1169 ?_
      refine q_if_eq (tgt := 1175) C h dL_law_1170 (by decide) (fun h => ?_) (fun h => ?_)
      · refine q_goto (tgt := 1776) C dL_law_1175 (by decide) ?_
        obtain rfl := Option.some.inj h
        refine q_widen (k := c0 + 2) (n := s0 + 12) (by omega) (by omega) ?_
        refine q_norm [0, 1, 2, 3, 4] rfl ?_
        exact hk
      · cases h
  · cases h
def CL_1178 (n : Nat) (xs : Nat → Int32) (L : Nat) (v4 : Int32) (S : qSt) : Option qSt := if qin (v4 + 1) L = true then if qin (v4 + 2) L = true then ob2 (FL_withoutAt n (xs (v4 + 1).toNatClampNeg) (xs (v4 + 2).toNatClampNeg) S) fun r4 S5 => ob2 (F8_withoutAt n (xs (v4 + 1).toNatClampNeg) (xs (v4 + 2).toNatClampNeg) S5) fun r7 S8 => if (F8_thrown S8) = r4 then (if ¬ r4 = 0 then (some S8) else (if (lg_cmp ((S8 126 (0 : Int32).toNatClampNeg).toInt64) r7.toInt64) = 0 then (some S8) else (none))) else (none) else none else none
set_option maxRecDepth 100000 in
set_option maxHeartbeats 4000000 in
theorem WL_1178 {S2 : qSt} {Q : State → Prop} {c0 s0 : Nat} (C : qC g cL_law RL 7 p s m meth c) (hl9 : l.stackTraces = false) (hX : va_X b L xs s s.heap) (hbl : b < s.heap.size) (hbA : ¬ qA g b) (hc0 : c0 + 2 ≤ 601024) (hs0 : s0 + 12 ≤ 7293034) (n : Nat) (v4 : Int32) (S : qSt) (h : CL_1178 n xs L v4 S = some S2) (hk : qR g NL qT 7 p l e room_1 s m args below meth c (c0 + 2) (s0 + 12) Q (qmem g S2) 1776 [(0, .ref b), (1, .ref (qa g 0)), (2, .ref (qa g 111)), (3, .ref (qa g 126)), (4, .int v4)] []) : qR g NL qT 7 p l e room_1 s m args below meth c c0 s0 Q (qmem g S) 1178 [(0, .ref b), (1, .ref (qa g 0)), (2, .ref (qa g 111)), (3, .ref (qa g 126)), (4, .int v4)] [] := by
  unfold CL_1178 at h
  refine q_aload_n C 1 dL_law_1178 rfl rfl ?_
  refine q_aload_n C 0 dL_law_1179 rfl rfl ?_
  refine q_iload C 4 dL_law_1180 rfl ?_
  refine q_iconst (v := 1) C dL_law_1182 (by decide) ?_
  refine q_iadd C dL_law_1183 ?_
  obtain ⟨hb1, h⟩ := q_if h
  refine q_sld C hX hbl hbA hb1 dL_law_1184 ?_
  refine q_aload_n C 0 dL_law_1185 rfl rfl ?_
  refine q_iload C 4 dL_law_1186 rfl ?_
  refine q_iconst (v := 2) C dL_law_1188 (by decide) ?_
  refine q_iadd C dL_law_1189 ?_
  obtain ⟨hb2, h⟩ := q_if h
  refine q_sld C hX hbl hbA hb2 dL_law_1190 ?_
  refine q_aload_n C 3 dL_law_1191 rfl rfl ?_
  obtain ⟨r4, S5, hc3, h⟩ := ob2_e h
  refine q_callW C (kL_withoutAt hl9 n (xs (v4 + 1).toNatClampNeg) (xs (v4 + 2).toNatClampNeg) S hc3) lwL_165 rfl (rest := []) rfl (Nat.le_of_ble_eq_true rfl) dL_law_1192 ⟨rfl, rfl, Nat.le_of_ble_eq_true rfl, Nat.le_of_ble_eq_true rfl, (by omega : _ ≤ 601024), (by omega : _ ≤ 7293034)⟩ ?_
  refine q_istore C (lv' := [(5, .int r4), (0, .ref b), (1, .ref (qa g 0)), (2, .ref (qa g 111)), (3, .ref (qa g 126)), (4, .int v4)]) dL_law_1195 (by decide) rfl ?_
  refine q_norm [1, 2, 3, 4, 5, 0] rfl ?_
  refine q_aload_n C 2 dL_law_1197 rfl rfl ?_
  refine q_aload_n C 0 dL_law_1198 rfl rfl ?_
  refine q_iload C 4 dL_law_1199 rfl ?_
  refine q_iconst (v := 1) C dL_law_1201 (by decide) ?_
  refine q_iadd C dL_law_1202 ?_
  refine q_sld C hX hbl hbA hb1 dL_law_1203 ?_
  refine q_aload_n C 0 dL_law_1204 rfl rfl ?_
  refine q_iload C 4 dL_law_1205 rfl ?_
  refine q_iconst (v := 2) C dL_law_1207 (by decide) ?_
  refine q_iadd C dL_law_1208 ?_
  refine q_sld C hX hbl hbA hb2 dL_law_1209 ?_
  obtain ⟨r7, S8, hc6, h⟩ := ob2_e h
  refine q_callVi0 C ltp_111 (qmem_o kd_111 (Nat.le_of_ble_eq_true rfl)) rfl rfl (kX8_withoutAt n (xs (v4 + 1).toNatClampNeg) (xs (v4 + 2).toNatClampNeg) S5 hc6) lwL_167 rfl (rest := []) rfl (Nat.le_of_ble_eq_true rfl) dL_law_1210 ⟨rfl, rfl, Nat.le_of_ble_eq_true rfl, Nat.le_of_ble_eq_true rfl, (by omega : _ ≤ 601024), (by omega : _ ≤ 7293034)⟩ ?_
  refine q_istore C (lv' := [(6, .int r7), (0, .ref b), (1, .ref (qa g 0)), (2, .ref (qa g 111)), (3, .ref (qa g 126)), (4, .int v4), (5, .int r4)]) dL_law_1213 (by decide) rfl ?_
  refine q_norm [1, 2, 3, 4, 5, 6, 0] rfl ?_
  refine q_aload_n C 2 dL_law_1215 rfl rfl ?_
  refine q_callVi0 C ltp_111 (qmem_o kd_111 (Nat.le_of_ble_eq_true rfl)) rfl rfl (kX8_thrown S8) lwL_104 rfl (rest := []) rfl (Nat.le_of_ble_eq_true rfl) dL_law_1216 ⟨rfl, rfl, Nat.le_of_ble_eq_true rfl, Nat.le_of_ble_eq_true rfl, (by omega : _ ≤ 601024), (by omega : _ ≤ 7293034)⟩ ?_
  refine q_iload C 5 dL_law_1219 rfl ?_
  refine q_icmp_eq (tgt := 1226) C h dL_law_1221 (by decide) (fun h => ?_) (fun h => ?_)
  · refine q_iload C 5 dL_law_1226 rfl ?_
    refine q_if_ne (tgt := 1243) C h dL_law_1228 (by decide) (fun h => ?_) (fun h => ?_)
    · refine q_goto (tgt := 1776) C dL_law_1243 (by decide) ?_
      obtain rfl := Option.some.inj h
      refine q_widen (k := c0 + 2) (n := s0 + 12) (by omega) (by omega) ?_
      refine q_norm [0, 1, 2, 3, 4] rfl ?_
      exact hk
    · refine q_aload_n C 3 dL_law_1231 rfl rfl ?_
      refine q_iconst (v := 0) C dL_law_1232 (by decide) ?_
      refine s_lald C ltp_126 kd_126 (by decide) dL_law_1233 ?_
      refine q_iload C 6 dL_law_1234 rfl ?_
      refine q_i2l C dL_law_1236 rfl ?_
      refine q_lcmp C dL_law_1237 ?_
      refine q_if_eq (tgt := 1243) C h dL_law_1238 (by decide) (fun h => ?_) (fun h => ?_)
      · refine q_goto (tgt := 1776) C dL_law_1243 (by decide) ?_
        obtain rfl := Option.some.inj h
        refine q_widen (k := c0 + 2) (n := s0 + 12) (by omega) (by omega) ?_
        refine q_norm [0, 1, 2, 3, 4] rfl ?_
        exact hk
      · cases h
  · cases h
def CL_1246 (n : Nat) (xs : Nat → Int32) (L : Nat) (v4 : Int32) (S : qSt) : Option qSt := ob2 (F7_dearest n S) fun r2 S3 => ob2 (F8_dearest n S3) fun r5 S6 => if r2 = r5 then (some S6) else (none)
set_option maxRecDepth 100000 in
set_option maxHeartbeats 4000000 in
theorem WL_1246 {S2 : qSt} {Q : State → Prop} {c0 s0 : Nat} (C : qC g cL_law RL 7 p s m meth c) (hl9 : l.stackTraces = false) (hX : va_X b L xs s s.heap) (hbl : b < s.heap.size) (hbA : ¬ qA g b) (hc0 : c0 + 2 ≤ 601024) (hs0 : s0 + 12 ≤ 7293034) (n : Nat) (v4 : Int32) (S : qSt) (h : CL_1246 n xs L v4 S = some S2) (hk : qR g NL qT 7 p l e room_1 s m args below meth c (c0 + 2) (s0 + 12) Q (qmem g S2) 1776 [(0, .ref b), (1, .ref (qa g 0)), (2, .ref (qa g 111)), (3, .ref (qa g 126)), (4, .int v4)] []) : qR g NL qT 7 p l e room_1 s m args below meth c c0 s0 Q (qmem g S) 1246 [(0, .ref b), (1, .ref (qa g 0)), (2, .ref (qa g 111)), (3, .ref (qa g 126)), (4, .int v4)] [] := by
  unfold CL_1246 at h
  refine q_aload_n C 1 dL_law_1246 rfl rfl ?_
  obtain ⟨r2, S3, hc1, h⟩ := ob2_e h
  refine q_callVi0 C ltp_0 (qmem_o kd_0 (Nat.le_of_ble_eq_true rfl)) rfl rfl (kX7_dearest n S hc1) lwL_168 rfl (rest := []) rfl (Nat.le_of_ble_eq_true rfl) dL_law_1247 ⟨rfl, rfl, Nat.le_of_ble_eq_true rfl, Nat.le_of_ble_eq_true rfl, (by omega : _ ≤ 601024), (by omega : _ ≤ 7293034)⟩ ?_
  refine q_aload_n C 2 dL_law_1250 rfl rfl ?_
  obtain ⟨r5, S6, hc4, h⟩ := ob2_e h
  refine q_callVi0 C ltp_111 (qmem_o kd_111 (Nat.le_of_ble_eq_true rfl)) rfl rfl (kX8_dearest n S3 hc4) lwL_171 rfl (rest := [.int r2]) rfl (Nat.le_of_ble_eq_true rfl) dL_law_1251 ⟨rfl, rfl, Nat.le_of_ble_eq_true rfl, Nat.le_of_ble_eq_true rfl, (by omega : _ ≤ 601024), (by omega : _ ≤ 7293034)⟩ ?_
  refine q_icmp_eq (tgt := 1776) C h dL_law_1254 (by decide) (fun h => ?_) (fun h => ?_)
  · obtain rfl := Option.some.inj h
    refine q_widen (k := c0 + 2) (n := s0 + 12) (by omega) (by omega) ?_
    exact hk
  · cases h
def CL_1259 (n : Nat) (xs : Nat → Int32) (L : Nat) (v4 : Int32) (S : qSt) : Option qSt := if qin (v4 + 1) L = true then ob2 (FL_upTo n (xs (v4 + 1).toNatClampNeg) S) fun r3 S4 => ob2 (F8_upTo n (xs (v4 + 1).toNatClampNeg) S4) fun r6 S7 => if (F8_thrown S7) = r3 then (if ¬ r3 = 0 then (some S7) else (if (lg_cmp ((S7 126 (0 : Int32).toNatClampNeg).toInt64) r6.toInt64) = 0 then (some S7) else (none))) else (none) else none
set_option maxRecDepth 100000 in
set_option maxHeartbeats 4000000 in
theorem WL_1259 {S2 : qSt} {Q : State → Prop} {c0 s0 : Nat} (C : qC g cL_law RL 7 p s m meth c) (hl9 : l.stackTraces = false) (hX : va_X b L xs s s.heap) (hbl : b < s.heap.size) (hbA : ¬ qA g b) (hc0 : c0 + 2 ≤ 601024) (hs0 : s0 + 12 ≤ 7293034) (n : Nat) (v4 : Int32) (S : qSt) (h : CL_1259 n xs L v4 S = some S2) (hk : qR g NL qT 7 p l e room_1 s m args below meth c (c0 + 2) (s0 + 12) Q (qmem g S2) 1776 [(0, .ref b), (1, .ref (qa g 0)), (2, .ref (qa g 111)), (3, .ref (qa g 126)), (4, .int v4)] []) : qR g NL qT 7 p l e room_1 s m args below meth c c0 s0 Q (qmem g S) 1259 [(0, .ref b), (1, .ref (qa g 0)), (2, .ref (qa g 111)), (3, .ref (qa g 126)), (4, .int v4)] [] := by
  unfold CL_1259 at h
  refine q_aload_n C 1 dL_law_1259 rfl rfl ?_
  refine q_aload_n C 0 dL_law_1260 rfl rfl ?_
  refine q_iload C 4 dL_law_1261 rfl ?_
  refine q_iconst (v := 1) C dL_law_1263 (by decide) ?_
  refine q_iadd C dL_law_1264 ?_
  obtain ⟨hb1, h⟩ := q_if h
  refine q_sld C hX hbl hbA hb1 dL_law_1265 ?_
  refine q_aload_n C 3 dL_law_1266 rfl rfl ?_
  obtain ⟨r3, S4, hc2, h⟩ := ob2_e h
  refine q_callW C (kL_upTo hl9 n (xs (v4 + 1).toNatClampNeg) S hc2) lwL_172 rfl (rest := []) rfl (Nat.le_of_ble_eq_true rfl) dL_law_1267 ⟨rfl, rfl, Nat.le_of_ble_eq_true rfl, Nat.le_of_ble_eq_true rfl, (by omega : _ ≤ 601024), (by omega : _ ≤ 7293034)⟩ ?_
  refine q_istore C (lv' := [(5, .int r3), (0, .ref b), (1, .ref (qa g 0)), (2, .ref (qa g 111)), (3, .ref (qa g 126)), (4, .int v4)]) dL_law_1270 (by decide) rfl ?_
  refine q_norm [1, 2, 3, 4, 5, 0] rfl ?_
  refine q_aload_n C 2 dL_law_1272 rfl rfl ?_
  refine q_aload_n C 0 dL_law_1273 rfl rfl ?_
  refine q_iload C 4 dL_law_1274 rfl ?_
  refine q_iconst (v := 1) C dL_law_1276 (by decide) ?_
  refine q_iadd C dL_law_1277 ?_
  refine q_sld C hX hbl hbA hb1 dL_law_1278 ?_
  obtain ⟨r6, S7, hc5, h⟩ := ob2_e h
  refine q_callVi0 C ltp_111 (qmem_o kd_111 (Nat.le_of_ble_eq_true rfl)) rfl rfl (kX8_upTo n (xs (v4 + 1).toNatClampNeg) S4 hc5) lwL_174 rfl (rest := []) rfl (Nat.le_of_ble_eq_true rfl) dL_law_1279 ⟨rfl, rfl, Nat.le_of_ble_eq_true rfl, Nat.le_of_ble_eq_true rfl, (by omega : _ ≤ 601024), (by omega : _ ≤ 7293034)⟩ ?_
  refine q_istore C (lv' := [(6, .int r6), (0, .ref b), (1, .ref (qa g 0)), (2, .ref (qa g 111)), (3, .ref (qa g 126)), (4, .int v4), (5, .int r3)]) dL_law_1282 (by decide) rfl ?_
  refine q_norm [1, 2, 3, 4, 5, 6, 0] rfl ?_
  refine q_aload_n C 2 dL_law_1284 rfl rfl ?_
  refine q_callVi0 C ltp_111 (qmem_o kd_111 (Nat.le_of_ble_eq_true rfl)) rfl rfl (kX8_thrown S7) lwL_104 rfl (rest := []) rfl (Nat.le_of_ble_eq_true rfl) dL_law_1285 ⟨rfl, rfl, Nat.le_of_ble_eq_true rfl, Nat.le_of_ble_eq_true rfl, (by omega : _ ≤ 601024), (by omega : _ ≤ 7293034)⟩ ?_
  refine q_iload C 5 dL_law_1288 rfl ?_
  refine q_icmp_eq (tgt := 1295) C h dL_law_1290 (by decide) (fun h => ?_) (fun h => ?_)
  · refine q_iload C 5 dL_law_1295 rfl ?_
    refine q_if_ne (tgt := 1312) C h dL_law_1297 (by decide) (fun h => ?_) (fun h => ?_)
    · refine q_goto (tgt := 1776) C dL_law_1312 (by decide) ?_
      obtain rfl := Option.some.inj h
      refine q_widen (k := c0 + 2) (n := s0 + 12) (by omega) (by omega) ?_
      refine q_norm [0, 1, 2, 3, 4] rfl ?_
      exact hk
    · refine q_aload_n C 3 dL_law_1300 rfl rfl ?_
      refine q_iconst (v := 0) C dL_law_1301 (by decide) ?_
      refine s_lald C ltp_126 kd_126 (by decide) dL_law_1302 ?_
      refine q_iload C 6 dL_law_1303 rfl ?_
      refine q_i2l C dL_law_1305 rfl ?_
      refine q_lcmp C dL_law_1306 ?_
      refine q_if_eq (tgt := 1312) C h dL_law_1307 (by decide) (fun h => ?_) (fun h => ?_)
      · refine q_goto (tgt := 1776) C dL_law_1312 (by decide) ?_
        obtain rfl := Option.some.inj h
        refine q_widen (k := c0 + 2) (n := s0 + 12) (by omega) (by omega) ?_
        refine q_norm [0, 1, 2, 3, 4] rfl ?_
        exact hk
      · cases h
  · cases h
def CL_1315 (n : Nat) (xs : Nat → Int32) (L : Nat) (v4 : Int32) (S : qSt) : Option qSt := if qin (v4 + 1) L = true then if qin (v4 + 2) L = true then if qin (v4 + 3) L = true then ob2 (FL_saves n (xs (v4 + 1).toNatClampNeg) (xs (v4 + 2).toNatClampNeg) (xs (v4 + 3).toNatClampNeg) S) fun r5 S6 => ob2 (F8_saves n (xs (v4 + 1).toNatClampNeg) (xs (v4 + 2).toNatClampNeg) (xs (v4 + 3).toNatClampNeg) S6) fun r8 S9 => if (F8_thrown S9) = r5 then (if ¬ r5 = 0 then (some S9) else (if (lg_cmp ((S9 126 (0 : Int32).toNatClampNeg).toInt64) r8.toInt64) = 0 then (some S9) else (none))) else (none) else none else none else none
set_option maxRecDepth 100000 in
set_option maxHeartbeats 4000000 in
theorem WL_1315 {S2 : qSt} {Q : State → Prop} {c0 s0 : Nat} (C : qC g cL_law RL 7 p s m meth c) (hl9 : l.stackTraces = false) (hX : va_X b L xs s s.heap) (hbl : b < s.heap.size) (hbA : ¬ qA g b) (hc0 : c0 + 2 ≤ 601024) (hs0 : s0 + 12 ≤ 7293034) (n : Nat) (v4 : Int32) (S : qSt) (h : CL_1315 n xs L v4 S = some S2) (hk : qR g NL qT 7 p l e room_1 s m args below meth c (c0 + 2) (s0 + 12) Q (qmem g S2) 1776 [(0, .ref b), (1, .ref (qa g 0)), (2, .ref (qa g 111)), (3, .ref (qa g 126)), (4, .int v4)] []) : qR g NL qT 7 p l e room_1 s m args below meth c c0 s0 Q (qmem g S) 1315 [(0, .ref b), (1, .ref (qa g 0)), (2, .ref (qa g 111)), (3, .ref (qa g 126)), (4, .int v4)] [] := by
  unfold CL_1315 at h
  refine q_aload_n C 1 dL_law_1315 rfl rfl ?_
  refine q_aload_n C 0 dL_law_1316 rfl rfl ?_
  refine q_iload C 4 dL_law_1317 rfl ?_
  refine q_iconst (v := 1) C dL_law_1319 (by decide) ?_
  refine q_iadd C dL_law_1320 ?_
  obtain ⟨hb1, h⟩ := q_if h
  refine q_sld C hX hbl hbA hb1 dL_law_1321 ?_
  refine q_aload_n C 0 dL_law_1322 rfl rfl ?_
  refine q_iload C 4 dL_law_1323 rfl ?_
  refine q_iconst (v := 2) C dL_law_1325 (by decide) ?_
  refine q_iadd C dL_law_1326 ?_
  obtain ⟨hb2, h⟩ := q_if h
  refine q_sld C hX hbl hbA hb2 dL_law_1327 ?_
  refine q_aload_n C 0 dL_law_1328 rfl rfl ?_
  refine q_iload C 4 dL_law_1329 rfl ?_
  refine q_iconst (v := 3) C dL_law_1331 (by decide) ?_
  refine q_iadd C dL_law_1332 ?_
  obtain ⟨hb3, h⟩ := q_if h
  refine q_sld C hX hbl hbA hb3 dL_law_1333 ?_
  refine q_aload_n C 3 dL_law_1334 rfl rfl ?_
  obtain ⟨r5, S6, hc4, h⟩ := ob2_e h
  refine q_callW C (kL_saves hl9 n (xs (v4 + 1).toNatClampNeg) (xs (v4 + 2).toNatClampNeg) (xs (v4 + 3).toNatClampNeg) S hc4) lwL_175 rfl (rest := []) rfl (Nat.le_of_ble_eq_true rfl) dL_law_1335 ⟨rfl, rfl, Nat.le_of_ble_eq_true rfl, Nat.le_of_ble_eq_true rfl, (by omega : _ ≤ 601024), (by omega : _ ≤ 7293034)⟩ ?_
  refine q_istore C (lv' := [(5, .int r5), (0, .ref b), (1, .ref (qa g 0)), (2, .ref (qa g 111)), (3, .ref (qa g 126)), (4, .int v4)]) dL_law_1338 (by decide) rfl ?_
  refine q_norm [1, 2, 3, 4, 5, 0] rfl ?_
  refine q_aload_n C 2 dL_law_1340 rfl rfl ?_
  refine q_aload_n C 0 dL_law_1341 rfl rfl ?_
  refine q_iload C 4 dL_law_1342 rfl ?_
  refine q_iconst (v := 1) C dL_law_1344 (by decide) ?_
  refine q_iadd C dL_law_1345 ?_
  refine q_sld C hX hbl hbA hb1 dL_law_1346 ?_
  refine q_aload_n C 0 dL_law_1347 rfl rfl ?_
  refine q_iload C 4 dL_law_1348 rfl ?_
  refine q_iconst (v := 2) C dL_law_1350 (by decide) ?_
  refine q_iadd C dL_law_1351 ?_
  refine q_sld C hX hbl hbA hb2 dL_law_1352 ?_
  refine q_aload_n C 0 dL_law_1353 rfl rfl ?_
  refine q_iload C 4 dL_law_1354 rfl ?_
  refine q_iconst (v := 3) C dL_law_1356 (by decide) ?_
  refine q_iadd C dL_law_1357 ?_
  refine q_sld C hX hbl hbA hb3 dL_law_1358 ?_
  obtain ⟨r8, S9, hc7, h⟩ := ob2_e h
  refine q_callVi0 C ltp_111 (qmem_o kd_111 (Nat.le_of_ble_eq_true rfl)) rfl rfl (kX8_saves n (xs (v4 + 1).toNatClampNeg) (xs (v4 + 2).toNatClampNeg) (xs (v4 + 3).toNatClampNeg) S6 hc7) lwL_177 rfl (rest := []) rfl (Nat.le_of_ble_eq_true rfl) dL_law_1359 ⟨rfl, rfl, Nat.le_of_ble_eq_true rfl, Nat.le_of_ble_eq_true rfl, (by omega : _ ≤ 601024), (by omega : _ ≤ 7293034)⟩ ?_
  refine q_istore C (lv' := [(6, .int r8), (0, .ref b), (1, .ref (qa g 0)), (2, .ref (qa g 111)), (3, .ref (qa g 126)), (4, .int v4), (5, .int r5)]) dL_law_1362 (by decide) rfl ?_
  refine q_norm [1, 2, 3, 4, 5, 6, 0] rfl ?_
  refine q_aload_n C 2 dL_law_1364 rfl rfl ?_
  refine q_callVi0 C ltp_111 (qmem_o kd_111 (Nat.le_of_ble_eq_true rfl)) rfl rfl (kX8_thrown S9) lwL_104 rfl (rest := []) rfl (Nat.le_of_ble_eq_true rfl) dL_law_1365 ⟨rfl, rfl, Nat.le_of_ble_eq_true rfl, Nat.le_of_ble_eq_true rfl, (by omega : _ ≤ 601024), (by omega : _ ≤ 7293034)⟩ ?_
  refine q_iload C 5 dL_law_1368 rfl ?_
  refine q_icmp_eq (tgt := 1375) C h dL_law_1370 (by decide) (fun h => ?_) (fun h => ?_)
  · refine q_iload C 5 dL_law_1375 rfl ?_
    refine q_if_ne (tgt := 1392) C h dL_law_1377 (by decide) (fun h => ?_) (fun h => ?_)
    · refine q_goto (tgt := 1776) C dL_law_1392 (by decide) ?_
      obtain rfl := Option.some.inj h
      refine q_widen (k := c0 + 2) (n := s0 + 12) (by omega) (by omega) ?_
      refine q_norm [0, 1, 2, 3, 4] rfl ?_
      exact hk
    · refine q_aload_n C 3 dL_law_1380 rfl rfl ?_
      refine q_iconst (v := 0) C dL_law_1381 (by decide) ?_
      refine s_lald C ltp_126 kd_126 (by decide) dL_law_1382 ?_
      refine q_iload C 6 dL_law_1383 rfl ?_
      refine q_i2l C dL_law_1385 rfl ?_
      refine q_lcmp C dL_law_1386 ?_
      refine q_if_eq (tgt := 1392) C h dL_law_1387 (by decide) (fun h => ?_) (fun h => ?_)
      · refine q_goto (tgt := 1776) C dL_law_1392 (by decide) ?_
        obtain rfl := Option.some.inj h
        refine q_widen (k := c0 + 2) (n := s0 + 12) (by omega) (by omega) ?_
        refine q_norm [0, 1, 2, 3, 4] rfl ?_
        exact hk
      · cases h
  · cases h
def CL_1395 (n : Nat) (xs : Nat → Int32) (L : Nat) (v4 : Int32) (S : qSt) : Option qSt := if qin (v4 + 1) L = true then ob2 (FL_ways n (xs (v4 + 1).toNatClampNeg) S) fun r3 S4 => ob2 (F8_ways n (xs (v4 + 1).toNatClampNeg) S4) fun r6 S7 => if (F8_thrown S7) = r3 then (if ¬ r3 = 0 then (some S7) else (if (lg_cmp ((S7 126 (0 : Int32).toNatClampNeg).toInt64) r6.toInt64) = 0 then (some S7) else (none))) else (none) else none
set_option maxRecDepth 100000 in
set_option maxHeartbeats 4000000 in
theorem WL_1395 {S2 : qSt} {Q : State → Prop} {c0 s0 : Nat} (C : qC g cL_law RL 7 p s m meth c) (hl9 : l.stackTraces = false) (hX : va_X b L xs s s.heap) (hbl : b < s.heap.size) (hbA : ¬ qA g b) (hc0 : c0 + 2 ≤ 601024) (hs0 : s0 + 12 ≤ 7293034) (n : Nat) (v4 : Int32) (S : qSt) (h : CL_1395 n xs L v4 S = some S2) (hk : qR g NL qT 7 p l e room_1 s m args below meth c (c0 + 2) (s0 + 12) Q (qmem g S2) 1776 [(0, .ref b), (1, .ref (qa g 0)), (2, .ref (qa g 111)), (3, .ref (qa g 126)), (4, .int v4)] []) : qR g NL qT 7 p l e room_1 s m args below meth c c0 s0 Q (qmem g S) 1395 [(0, .ref b), (1, .ref (qa g 0)), (2, .ref (qa g 111)), (3, .ref (qa g 126)), (4, .int v4)] [] := by
  unfold CL_1395 at h
  refine q_aload_n C 1 dL_law_1395 rfl rfl ?_
  refine q_aload_n C 0 dL_law_1396 rfl rfl ?_
  refine q_iload C 4 dL_law_1397 rfl ?_
  refine q_iconst (v := 1) C dL_law_1399 (by decide) ?_
  refine q_iadd C dL_law_1400 ?_
  obtain ⟨hb1, h⟩ := q_if h
  refine q_sld C hX hbl hbA hb1 dL_law_1401 ?_
  refine q_aload_n C 3 dL_law_1402 rfl rfl ?_
  obtain ⟨r3, S4, hc2, h⟩ := ob2_e h
  refine q_callW C (kL_ways hl9 n (xs (v4 + 1).toNatClampNeg) S hc2) lwL_178 rfl (rest := []) rfl (Nat.le_of_ble_eq_true rfl) dL_law_1403 ⟨rfl, rfl, Nat.le_of_ble_eq_true rfl, Nat.le_of_ble_eq_true rfl, (by omega : _ ≤ 601024), (by omega : _ ≤ 7293034)⟩ ?_
  refine q_istore C (lv' := [(5, .int r3), (0, .ref b), (1, .ref (qa g 0)), (2, .ref (qa g 111)), (3, .ref (qa g 126)), (4, .int v4)]) dL_law_1406 (by decide) rfl ?_
  refine q_norm [1, 2, 3, 4, 5, 0] rfl ?_
  refine q_aload_n C 2 dL_law_1408 rfl rfl ?_
  refine q_aload_n C 0 dL_law_1409 rfl rfl ?_
  refine q_iload C 4 dL_law_1410 rfl ?_
  refine q_iconst (v := 1) C dL_law_1412 (by decide) ?_
  refine q_iadd C dL_law_1413 ?_
  refine q_sld C hX hbl hbA hb1 dL_law_1414 ?_
  obtain ⟨r6, S7, hc5, h⟩ := ob2_e h
  refine q_callVi0 C ltp_111 (qmem_o kd_111 (Nat.le_of_ble_eq_true rfl)) rfl rfl (kX8_ways n (xs (v4 + 1).toNatClampNeg) S4 hc5) lwL_180 rfl (rest := []) rfl (Nat.le_of_ble_eq_true rfl) dL_law_1415 ⟨rfl, rfl, Nat.le_of_ble_eq_true rfl, Nat.le_of_ble_eq_true rfl, (by omega : _ ≤ 601024), (by omega : _ ≤ 7293034)⟩ ?_
  refine q_istore C (lv' := [(6, .int r6), (0, .ref b), (1, .ref (qa g 0)), (2, .ref (qa g 111)), (3, .ref (qa g 126)), (4, .int v4), (5, .int r3)]) dL_law_1418 (by decide) rfl ?_
  refine q_norm [1, 2, 3, 4, 5, 6, 0] rfl ?_
  refine q_aload_n C 2 dL_law_1420 rfl rfl ?_
  refine q_callVi0 C ltp_111 (qmem_o kd_111 (Nat.le_of_ble_eq_true rfl)) rfl rfl (kX8_thrown S7) lwL_104 rfl (rest := []) rfl (Nat.le_of_ble_eq_true rfl) dL_law_1421 ⟨rfl, rfl, Nat.le_of_ble_eq_true rfl, Nat.le_of_ble_eq_true rfl, (by omega : _ ≤ 601024), (by omega : _ ≤ 7293034)⟩ ?_
  refine q_iload C 5 dL_law_1424 rfl ?_
  refine q_icmp_eq (tgt := 1431) C h dL_law_1426 (by decide) (fun h => ?_) (fun h => ?_)
  · refine q_iload C 5 dL_law_1431 rfl ?_
    refine q_if_ne (tgt := 1448) C h dL_law_1433 (by decide) (fun h => ?_) (fun h => ?_)
    · refine q_goto (tgt := 1776) C dL_law_1448 (by decide) ?_
      obtain rfl := Option.some.inj h
      refine q_widen (k := c0 + 2) (n := s0 + 12) (by omega) (by omega) ?_
      refine q_norm [0, 1, 2, 3, 4] rfl ?_
      exact hk
    · refine q_aload_n C 3 dL_law_1436 rfl rfl ?_
      refine q_iconst (v := 0) C dL_law_1437 (by decide) ?_
      refine s_lald C ltp_126 kd_126 (by decide) dL_law_1438 ?_
      refine q_iload C 6 dL_law_1439 rfl ?_
      refine q_i2l C dL_law_1441 rfl ?_
      refine q_lcmp C dL_law_1442 ?_
      refine q_if_eq (tgt := 1448) C h dL_law_1443 (by decide) (fun h => ?_) (fun h => ?_)
      · refine q_goto (tgt := 1776) C dL_law_1448 (by decide) ?_
        obtain rfl := Option.some.inj h
        refine q_widen (k := c0 + 2) (n := s0 + 12) (by omega) (by omega) ?_
        refine q_norm [0, 1, 2, 3, 4] rfl ?_
        exact hk
      · cases h
  · cases h
def CL_1451 (n : Nat) (xs : Nat → Int32) (L : Nat) (v4 : Int32) (S : qSt) : Option qSt := ob2 (F7_middle n S) fun r2 S3 => ob2 (F8_middle n S3) fun r5 S6 => if r2 = r5 then (some S6) else (none)
set_option maxRecDepth 100000 in
set_option maxHeartbeats 4000000 in
theorem WL_1451 {S2 : qSt} {Q : State → Prop} {c0 s0 : Nat} (C : qC g cL_law RL 7 p s m meth c) (hl9 : l.stackTraces = false) (hX : va_X b L xs s s.heap) (hbl : b < s.heap.size) (hbA : ¬ qA g b) (hc0 : c0 + 2 ≤ 601024) (hs0 : s0 + 12 ≤ 7293034) (n : Nat) (v4 : Int32) (S : qSt) (h : CL_1451 n xs L v4 S = some S2) (hk : qR g NL qT 7 p l e room_1 s m args below meth c (c0 + 2) (s0 + 12) Q (qmem g S2) 1776 [(0, .ref b), (1, .ref (qa g 0)), (2, .ref (qa g 111)), (3, .ref (qa g 126)), (4, .int v4)] []) : qR g NL qT 7 p l e room_1 s m args below meth c c0 s0 Q (qmem g S) 1451 [(0, .ref b), (1, .ref (qa g 0)), (2, .ref (qa g 111)), (3, .ref (qa g 126)), (4, .int v4)] [] := by
  unfold CL_1451 at h
  refine q_aload_n C 1 dL_law_1451 rfl rfl ?_
  obtain ⟨r2, S3, hc1, h⟩ := ob2_e h
  refine q_callVi0 C ltp_0 (qmem_o kd_0 (Nat.le_of_ble_eq_true rfl)) rfl rfl (kX7_middle n S hc1) lwL_181 rfl (rest := []) rfl (Nat.le_of_ble_eq_true rfl) dL_law_1452 ⟨rfl, rfl, Nat.le_of_ble_eq_true rfl, Nat.le_of_ble_eq_true rfl, (by omega : _ ≤ 601024), (by omega : _ ≤ 7293034)⟩ ?_
  refine q_aload_n C 2 dL_law_1455 rfl rfl ?_
  obtain ⟨r5, S6, hc4, h⟩ := ob2_e h
  refine q_callVi0 C ltp_111 (qmem_o kd_111 (Nat.le_of_ble_eq_true rfl)) rfl rfl (kX8_middle n S3 hc4) lwL_184 rfl (rest := [.int r2]) rfl (Nat.le_of_ble_eq_true rfl) dL_law_1456 ⟨rfl, rfl, Nat.le_of_ble_eq_true rfl, Nat.le_of_ble_eq_true rfl, (by omega : _ ≤ 601024), (by omega : _ ≤ 7293034)⟩ ?_
  refine q_icmp_eq (tgt := 1776) C h dL_law_1459 (by decide) (fun h => ?_) (fun h => ?_)
  · obtain rfl := Option.some.inj h
    refine q_widen (k := c0 + 2) (n := s0 + 12) (by omega) (by omega) ?_
    exact hk
  · cases h
def CL_1464 (n : Nat) (xs : Nat → Int32) (L : Nat) (v4 : Int32) (S : qSt) : Option qSt := if qin (v4 + 1) L = true then if qin (v4 + 2) L = true then if qin (v4 + 3) L = true then ob2 (FL_runScript n (xs (v4 + 1).toNatClampNeg) ((((xs (v4 + 2).toNatClampNeg).toInt64) <<< ((32 : Int32).toInt64 &&& 63)) ||| (((xs (v4 + 3).toNatClampNeg).toInt64) &&& 4294967295)) S) fun r5 S6 => ob2 (F8_runScript n (xs (v4 + 1).toNatClampNeg) ((((xs (v4 + 2).toNatClampNeg).toInt64) <<< ((32 : Int32).toInt64 &&& 63)) ||| (((xs (v4 + 3).toNatClampNeg).toInt64) &&& 4294967295)) S6) fun r8 S9 => if (F8_thrown S9) = r5 then (if ¬ r5 = 0 then (some S9) else (if (lg_cmp ((S9 126 (0 : Int32).toNatClampNeg).toInt64) r8.toInt64) = 0 then (some S9) else (none))) else (none) else none else none else none
set_option maxRecDepth 100000 in
set_option maxHeartbeats 4000000 in
theorem WL_1464 {S2 : qSt} {Q : State → Prop} {c0 s0 : Nat} (C : qC g cL_law RL 7 p s m meth c) (hl9 : l.stackTraces = false) (hX : va_X b L xs s s.heap) (hbl : b < s.heap.size) (hbA : ¬ qA g b) (hc0 : c0 + 2 ≤ 601024) (hs0 : s0 + 12 ≤ 7293034) (n : Nat) (v4 : Int32) (S : qSt) (h : CL_1464 n xs L v4 S = some S2) (hk : qR g NL qT 7 p l e room_1 s m args below meth c (c0 + 2) (s0 + 12) Q (qmem g S2) 1776 [(0, .ref b), (1, .ref (qa g 0)), (2, .ref (qa g 111)), (3, .ref (qa g 126)), (4, .int v4)] []) : qR g NL qT 7 p l e room_1 s m args below meth c c0 s0 Q (qmem g S) 1464 [(0, .ref b), (1, .ref (qa g 0)), (2, .ref (qa g 111)), (3, .ref (qa g 126)), (4, .int v4)] [] := by
  unfold CL_1464 at h
  refine q_aload_n C 1 dL_law_1464 rfl rfl ?_
  refine q_aload_n C 0 dL_law_1465 rfl rfl ?_
  refine q_iload C 4 dL_law_1466 rfl ?_
  refine q_iconst (v := 1) C dL_law_1468 (by decide) ?_
  refine q_iadd C dL_law_1469 ?_
  obtain ⟨hb1, h⟩ := q_if h
  refine q_sld C hX hbl hbA hb1 dL_law_1470 ?_
  refine q_aload_n C 0 dL_law_1471 rfl rfl ?_
  refine q_iload C 4 dL_law_1472 rfl ?_
  refine q_iconst (v := 2) C dL_law_1474 (by decide) ?_
  refine q_iadd C dL_law_1475 ?_
  obtain ⟨hb2, h⟩ := q_if h
  refine q_sld C hX hbl hbA hb2 dL_law_1476 ?_
  refine q_i2l C dL_law_1477 rfl ?_
  refine q_bipush (v := 32) C dL_law_1478 (by decide) ?_
  refine q_lshl C dL_law_1480 rfl ?_
  refine q_aload_n C 0 dL_law_1481 rfl rfl ?_
  refine q_iload C 4 dL_law_1482 rfl ?_
  refine q_iconst (v := 3) C dL_law_1484 (by decide) ?_
  refine q_iadd C dL_law_1485 ?_
  obtain ⟨hb3, h⟩ := q_if h
  refine q_sld C hX hbl hbA hb3 dL_law_1486 ?_
  refine q_i2l C dL_law_1487 rfl ?_
  refine q_ldc2 (v := 4294967295) C lcL_185 dL_law_1488 ?_
  refine q_land C dL_law_1491 ?_
  refine q_lor C dL_law_1492 ?_
  refine q_aload_n C 3 dL_law_1493 rfl rfl ?_
  obtain ⟨r5, S6, hc4, h⟩ := ob2_e h
  refine q_callW C (kL_runScript hl9 n (xs (v4 + 1).toNatClampNeg) ((((xs (v4 + 2).toNatClampNeg).toInt64) <<< ((32 : Int32).toInt64 &&& 63)) ||| (((xs (v4 + 3).toNatClampNeg).toInt64) &&& 4294967295)) S hc4) lwL_187 rfl (rest := []) rfl (Nat.le_of_ble_eq_true rfl) dL_law_1494 ⟨rfl, rfl, Nat.le_of_ble_eq_true rfl, Nat.le_of_ble_eq_true rfl, (by omega : _ ≤ 601024), (by omega : _ ≤ 7293034)⟩ ?_
  refine q_istore C (lv' := [(5, .int r5), (0, .ref b), (1, .ref (qa g 0)), (2, .ref (qa g 111)), (3, .ref (qa g 126)), (4, .int v4)]) dL_law_1497 (by decide) rfl ?_
  refine q_norm [1, 2, 3, 4, 5, 0] rfl ?_
  refine q_aload_n C 2 dL_law_1499 rfl rfl ?_
  refine q_aload_n C 0 dL_law_1500 rfl rfl ?_
  refine q_iload C 4 dL_law_1501 rfl ?_
  refine q_iconst (v := 1) C dL_law_1503 (by decide) ?_
  refine q_iadd C dL_law_1504 ?_
  refine q_sld C hX hbl hbA hb1 dL_law_1505 ?_
  refine q_aload_n C 0 dL_law_1506 rfl rfl ?_
  refine q_iload C 4 dL_law_1507 rfl ?_
  refine q_iconst (v := 2) C dL_law_1509 (by decide) ?_
  refine q_iadd C dL_law_1510 ?_
  refine q_sld C hX hbl hbA hb2 dL_law_1511 ?_
  refine q_i2l C dL_law_1512 rfl ?_
  refine q_bipush (v := 32) C dL_law_1513 (by decide) ?_
  refine q_lshl C dL_law_1515 rfl ?_
  refine q_aload_n C 0 dL_law_1516 rfl rfl ?_
  refine q_iload C 4 dL_law_1517 rfl ?_
  refine q_iconst (v := 3) C dL_law_1519 (by decide) ?_
  refine q_iadd C dL_law_1520 ?_
  refine q_sld C hX hbl hbA hb3 dL_law_1521 ?_
  refine q_i2l C dL_law_1522 rfl ?_
  refine q_ldc2 (v := 4294967295) C lcL_185 dL_law_1523 ?_
  refine q_land C dL_law_1526 ?_
  refine q_lor C dL_law_1527 ?_
  obtain ⟨r8, S9, hc7, h⟩ := ob2_e h
  refine q_callVi0 C ltp_111 (qmem_o kd_111 (Nat.le_of_ble_eq_true rfl)) rfl rfl (kX8_runScript n (xs (v4 + 1).toNatClampNeg) ((((xs (v4 + 2).toNatClampNeg).toInt64) <<< ((32 : Int32).toInt64 &&& 63)) ||| (((xs (v4 + 3).toNatClampNeg).toInt64) &&& 4294967295)) S6 hc7) lwL_190 rfl (rest := []) rfl (Nat.le_of_ble_eq_true rfl) dL_law_1528 ⟨rfl, rfl, Nat.le_of_ble_eq_true rfl, Nat.le_of_ble_eq_true rfl, (by omega : _ ≤ 601024), (by omega : _ ≤ 7293034)⟩ ?_
  refine q_istore C (lv' := [(6, .int r8), (0, .ref b), (1, .ref (qa g 0)), (2, .ref (qa g 111)), (3, .ref (qa g 126)), (4, .int v4), (5, .int r5)]) dL_law_1531 (by decide) rfl ?_
  refine q_norm [1, 2, 3, 4, 5, 6, 0] rfl ?_
  refine q_aload_n C 2 dL_law_1533 rfl rfl ?_
  refine q_callVi0 C ltp_111 (qmem_o kd_111 (Nat.le_of_ble_eq_true rfl)) rfl rfl (kX8_thrown S9) lwL_104 rfl (rest := []) rfl (Nat.le_of_ble_eq_true rfl) dL_law_1534 ⟨rfl, rfl, Nat.le_of_ble_eq_true rfl, Nat.le_of_ble_eq_true rfl, (by omega : _ ≤ 601024), (by omega : _ ≤ 7293034)⟩ ?_
  refine q_iload C 5 dL_law_1537 rfl ?_
  refine q_icmp_eq (tgt := 1544) C h dL_law_1539 (by decide) (fun h => ?_) (fun h => ?_)
  · refine q_iload C 5 dL_law_1544 rfl ?_
    refine q_if_ne (tgt := 1561) C h dL_law_1546 (by decide) (fun h => ?_) (fun h => ?_)
    · refine q_goto (tgt := 1776) C dL_law_1561 (by decide) ?_
      obtain rfl := Option.some.inj h
      refine q_widen (k := c0 + 2) (n := s0 + 12) (by omega) (by omega) ?_
      refine q_norm [0, 1, 2, 3, 4] rfl ?_
      exact hk
    · refine q_aload_n C 3 dL_law_1549 rfl rfl ?_
      refine q_iconst (v := 0) C dL_law_1550 (by decide) ?_
      refine s_lald C ltp_126 kd_126 (by decide) dL_law_1551 ?_
      refine q_iload C 6 dL_law_1552 rfl ?_
      refine q_i2l C dL_law_1554 rfl ?_
      refine q_lcmp C dL_law_1555 ?_
      refine q_if_eq (tgt := 1561) C h dL_law_1556 (by decide) (fun h => ?_) (fun h => ?_)
      · refine q_goto (tgt := 1776) C dL_law_1561 (by decide) ?_
        obtain rfl := Option.some.inj h
        refine q_widen (k := c0 + 2) (n := s0 + 12) (by omega) (by omega) ?_
        refine q_norm [0, 1, 2, 3, 4] rfl ?_
        exact hk
      · cases h
  · cases h
def CL_1564 (n : Nat) (xs : Nat → Int32) (L : Nat) (v4 : Int32) (S : qSt) : Option qSt := if qin (v4 + 1) L = true then if qin (v4 + 2) L = true then if qin (v4 + 3) L = true then ob2 (FL_simulate n ((((xs (v4 + 1).toNatClampNeg).toInt64) <<< ((32 : Int32).toInt64 &&& 63)) ||| (((xs (v4 + 2).toNatClampNeg).toInt64) &&& 4294967295)) (xs (v4 + 3).toNatClampNeg) S) fun r5 S6 => ob2 (F8_simulate n ((((xs (v4 + 1).toNatClampNeg).toInt64) <<< ((32 : Int32).toInt64 &&& 63)) ||| (((xs (v4 + 2).toNatClampNeg).toInt64) &&& 4294967295)) (xs (v4 + 3).toNatClampNeg) S6) fun r8 S9 => if (F8_thrown S9) = r5 then (if ¬ r5 = 0 then (some S9) else (if (lg_cmp ((S9 126 (0 : Int32).toNatClampNeg).toInt64) r8.toInt64) = 0 then (some S9) else (none))) else (none) else none else none else none
set_option maxRecDepth 100000 in
set_option maxHeartbeats 4000000 in
theorem WL_1564 {S2 : qSt} {Q : State → Prop} {c0 s0 : Nat} (C : qC g cL_law RL 7 p s m meth c) (hl9 : l.stackTraces = false) (hX : va_X b L xs s s.heap) (hbl : b < s.heap.size) (hbA : ¬ qA g b) (hc0 : c0 + 2 ≤ 601024) (hs0 : s0 + 12 ≤ 7293034) (n : Nat) (v4 : Int32) (S : qSt) (h : CL_1564 n xs L v4 S = some S2) (hk : qR g NL qT 7 p l e room_1 s m args below meth c (c0 + 2) (s0 + 12) Q (qmem g S2) 1776 [(0, .ref b), (1, .ref (qa g 0)), (2, .ref (qa g 111)), (3, .ref (qa g 126)), (4, .int v4)] []) : qR g NL qT 7 p l e room_1 s m args below meth c c0 s0 Q (qmem g S) 1564 [(0, .ref b), (1, .ref (qa g 0)), (2, .ref (qa g 111)), (3, .ref (qa g 126)), (4, .int v4)] [] := by
  unfold CL_1564 at h
  refine q_aload_n C 1 dL_law_1564 rfl rfl ?_
  refine q_aload_n C 0 dL_law_1565 rfl rfl ?_
  refine q_iload C 4 dL_law_1566 rfl ?_
  refine q_iconst (v := 1) C dL_law_1568 (by decide) ?_
  refine q_iadd C dL_law_1569 ?_
  obtain ⟨hb1, h⟩ := q_if h
  refine q_sld C hX hbl hbA hb1 dL_law_1570 ?_
  refine q_i2l C dL_law_1571 rfl ?_
  refine q_bipush (v := 32) C dL_law_1572 (by decide) ?_
  refine q_lshl C dL_law_1574 rfl ?_
  refine q_aload_n C 0 dL_law_1575 rfl rfl ?_
  refine q_iload C 4 dL_law_1576 rfl ?_
  refine q_iconst (v := 2) C dL_law_1578 (by decide) ?_
  refine q_iadd C dL_law_1579 ?_
  obtain ⟨hb2, h⟩ := q_if h
  refine q_sld C hX hbl hbA hb2 dL_law_1580 ?_
  refine q_i2l C dL_law_1581 rfl ?_
  refine q_ldc2 (v := 4294967295) C lcL_185 dL_law_1582 ?_
  refine q_land C dL_law_1585 ?_
  refine q_lor C dL_law_1586 ?_
  refine q_aload_n C 0 dL_law_1587 rfl rfl ?_
  refine q_iload C 4 dL_law_1588 rfl ?_
  refine q_iconst (v := 3) C dL_law_1590 (by decide) ?_
  refine q_iadd C dL_law_1591 ?_
  obtain ⟨hb3, h⟩ := q_if h
  refine q_sld C hX hbl hbA hb3 dL_law_1592 ?_
  refine q_aload_n C 3 dL_law_1593 rfl rfl ?_
  obtain ⟨r5, S6, hc4, h⟩ := ob2_e h
  refine q_callW C (kL_simulate hl9 n ((((xs (v4 + 1).toNatClampNeg).toInt64) <<< ((32 : Int32).toInt64 &&& 63)) ||| (((xs (v4 + 2).toNatClampNeg).toInt64) &&& 4294967295)) (xs (v4 + 3).toNatClampNeg) S hc4) lwL_191 rfl (rest := []) rfl (Nat.le_of_ble_eq_true rfl) dL_law_1594 ⟨rfl, rfl, Nat.le_of_ble_eq_true rfl, Nat.le_of_ble_eq_true rfl, (by omega : _ ≤ 601024), (by omega : _ ≤ 7293034)⟩ ?_
  refine q_istore C (lv' := [(5, .int r5), (0, .ref b), (1, .ref (qa g 0)), (2, .ref (qa g 111)), (3, .ref (qa g 126)), (4, .int v4)]) dL_law_1597 (by decide) rfl ?_
  refine q_norm [1, 2, 3, 4, 5, 0] rfl ?_
  refine q_aload_n C 2 dL_law_1599 rfl rfl ?_
  refine q_aload_n C 0 dL_law_1600 rfl rfl ?_
  refine q_iload C 4 dL_law_1601 rfl ?_
  refine q_iconst (v := 1) C dL_law_1603 (by decide) ?_
  refine q_iadd C dL_law_1604 ?_
  refine q_sld C hX hbl hbA hb1 dL_law_1605 ?_
  refine q_i2l C dL_law_1606 rfl ?_
  refine q_bipush (v := 32) C dL_law_1607 (by decide) ?_
  refine q_lshl C dL_law_1609 rfl ?_
  refine q_aload_n C 0 dL_law_1610 rfl rfl ?_
  refine q_iload C 4 dL_law_1611 rfl ?_
  refine q_iconst (v := 2) C dL_law_1613 (by decide) ?_
  refine q_iadd C dL_law_1614 ?_
  refine q_sld C hX hbl hbA hb2 dL_law_1615 ?_
  refine q_i2l C dL_law_1616 rfl ?_
  refine q_ldc2 (v := 4294967295) C lcL_185 dL_law_1617 ?_
  refine q_land C dL_law_1620 ?_
  refine q_lor C dL_law_1621 ?_
  refine q_aload_n C 0 dL_law_1622 rfl rfl ?_
  refine q_iload C 4 dL_law_1623 rfl ?_
  refine q_iconst (v := 3) C dL_law_1625 (by decide) ?_
  refine q_iadd C dL_law_1626 ?_
  refine q_sld C hX hbl hbA hb3 dL_law_1627 ?_
  obtain ⟨r8, S9, hc7, h⟩ := ob2_e h
  refine q_callVi0 C ltp_111 (qmem_o kd_111 (Nat.le_of_ble_eq_true rfl)) rfl rfl (kX8_simulate n ((((xs (v4 + 1).toNatClampNeg).toInt64) <<< ((32 : Int32).toInt64 &&& 63)) ||| (((xs (v4 + 2).toNatClampNeg).toInt64) &&& 4294967295)) (xs (v4 + 3).toNatClampNeg) S6 hc7) lwL_194 rfl (rest := []) rfl (Nat.le_of_ble_eq_true rfl) dL_law_1628 ⟨rfl, rfl, Nat.le_of_ble_eq_true rfl, Nat.le_of_ble_eq_true rfl, (by omega : _ ≤ 601024), (by omega : _ ≤ 7293034)⟩ ?_
  refine q_istore C (lv' := [(6, .int r8), (0, .ref b), (1, .ref (qa g 0)), (2, .ref (qa g 111)), (3, .ref (qa g 126)), (4, .int v4), (5, .int r5)]) dL_law_1631 (by decide) rfl ?_
  refine q_norm [1, 2, 3, 4, 5, 6, 0] rfl ?_
  refine q_aload_n C 2 dL_law_1633 rfl rfl ?_
  refine q_callVi0 C ltp_111 (qmem_o kd_111 (Nat.le_of_ble_eq_true rfl)) rfl rfl (kX8_thrown S9) lwL_104 rfl (rest := []) rfl (Nat.le_of_ble_eq_true rfl) dL_law_1634 ⟨rfl, rfl, Nat.le_of_ble_eq_true rfl, Nat.le_of_ble_eq_true rfl, (by omega : _ ≤ 601024), (by omega : _ ≤ 7293034)⟩ ?_
  refine q_iload C 5 dL_law_1637 rfl ?_
  refine q_icmp_eq (tgt := 1644) C h dL_law_1639 (by decide) (fun h => ?_) (fun h => ?_)
  · refine q_iload C 5 dL_law_1644 rfl ?_
    refine q_if_ne (tgt := 1661) C h dL_law_1646 (by decide) (fun h => ?_) (fun h => ?_)
    · refine q_goto (tgt := 1776) C dL_law_1661 (by decide) ?_
      obtain rfl := Option.some.inj h
      refine q_widen (k := c0 + 2) (n := s0 + 12) (by omega) (by omega) ?_
      refine q_norm [0, 1, 2, 3, 4] rfl ?_
      exact hk
    · refine q_aload_n C 3 dL_law_1649 rfl rfl ?_
      refine q_iconst (v := 0) C dL_law_1650 (by decide) ?_
      refine s_lald C ltp_126 kd_126 (by decide) dL_law_1651 ?_
      refine q_iload C 6 dL_law_1652 rfl ?_
      refine q_i2l C dL_law_1654 rfl ?_
      refine q_lcmp C dL_law_1655 ?_
      refine q_if_eq (tgt := 1661) C h dL_law_1656 (by decide) (fun h => ?_) (fun h => ?_)
      · refine q_goto (tgt := 1776) C dL_law_1661 (by decide) ?_
        obtain rfl := Option.some.inj h
        refine q_widen (k := c0 + 2) (n := s0 + 12) (by omega) (by omega) ?_
        refine q_norm [0, 1, 2, 3, 4] rfl ?_
        exact hk
      · cases h
  · cases h
def CL_1664 (n : Nat) (xs : Nat → Int32) (L : Nat) (v4 : Int32) (S : qSt) : Option qSt := if qin (v4 + 1) L = true then ob2 (FL_save n (xs (v4 + 1).toNatClampNeg) S) fun r3 S4 => ob2 (F8_save n (xs (v4 + 1).toNatClampNeg) S4) fun r6 S7 => if (F8_thrown S7) = r3 then (if ¬ r3 = 0 then (some S7) else (if (lg_cmp ((S7 126 (0 : Int32).toNatClampNeg).toInt64) r6.toInt64) = 0 then (some S7) else (none))) else (none) else none
set_option maxRecDepth 100000 in
set_option maxHeartbeats 4000000 in
theorem WL_1664 {S2 : qSt} {Q : State → Prop} {c0 s0 : Nat} (C : qC g cL_law RL 7 p s m meth c) (hl9 : l.stackTraces = false) (hX : va_X b L xs s s.heap) (hbl : b < s.heap.size) (hbA : ¬ qA g b) (hc0 : c0 + 2 ≤ 601024) (hs0 : s0 + 12 ≤ 7293034) (n : Nat) (v4 : Int32) (S : qSt) (h : CL_1664 n xs L v4 S = some S2) (hk : qR g NL qT 7 p l e room_1 s m args below meth c (c0 + 2) (s0 + 12) Q (qmem g S2) 1776 [(0, .ref b), (1, .ref (qa g 0)), (2, .ref (qa g 111)), (3, .ref (qa g 126)), (4, .int v4)] []) : qR g NL qT 7 p l e room_1 s m args below meth c c0 s0 Q (qmem g S) 1664 [(0, .ref b), (1, .ref (qa g 0)), (2, .ref (qa g 111)), (3, .ref (qa g 126)), (4, .int v4)] [] := by
  unfold CL_1664 at h
  refine q_aload_n C 1 dL_law_1664 rfl rfl ?_
  refine q_aload_n C 0 dL_law_1665 rfl rfl ?_
  refine q_iload C 4 dL_law_1666 rfl ?_
  refine q_iconst (v := 1) C dL_law_1668 (by decide) ?_
  refine q_iadd C dL_law_1669 ?_
  obtain ⟨hb1, h⟩ := q_if h
  refine q_sld C hX hbl hbA hb1 dL_law_1670 ?_
  refine q_aload_n C 3 dL_law_1671 rfl rfl ?_
  obtain ⟨r3, S4, hc2, h⟩ := ob2_e h
  refine q_callW C (kL_save hl9 n (xs (v4 + 1).toNatClampNeg) S hc2) lwL_195 rfl (rest := []) rfl (Nat.le_of_ble_eq_true rfl) dL_law_1672 ⟨rfl, rfl, Nat.le_of_ble_eq_true rfl, Nat.le_of_ble_eq_true rfl, (by omega : _ ≤ 601024), (by omega : _ ≤ 7293034)⟩ ?_
  refine q_istore C (lv' := [(5, .int r3), (0, .ref b), (1, .ref (qa g 0)), (2, .ref (qa g 111)), (3, .ref (qa g 126)), (4, .int v4)]) dL_law_1675 (by decide) rfl ?_
  refine q_norm [1, 2, 3, 4, 5, 0] rfl ?_
  refine q_aload_n C 2 dL_law_1677 rfl rfl ?_
  refine q_aload_n C 0 dL_law_1678 rfl rfl ?_
  refine q_iload C 4 dL_law_1679 rfl ?_
  refine q_iconst (v := 1) C dL_law_1681 (by decide) ?_
  refine q_iadd C dL_law_1682 ?_
  refine q_sld C hX hbl hbA hb1 dL_law_1683 ?_
  obtain ⟨r6, S7, hc5, h⟩ := ob2_e h
  refine q_callVi0 C ltp_111 (qmem_o kd_111 (Nat.le_of_ble_eq_true rfl)) rfl rfl (kX8_save n (xs (v4 + 1).toNatClampNeg) S4 hc5) lwL_197 rfl (rest := []) rfl (Nat.le_of_ble_eq_true rfl) dL_law_1684 ⟨rfl, rfl, Nat.le_of_ble_eq_true rfl, Nat.le_of_ble_eq_true rfl, (by omega : _ ≤ 601024), (by omega : _ ≤ 7293034)⟩ ?_
  refine q_istore C (lv' := [(6, .int r6), (0, .ref b), (1, .ref (qa g 0)), (2, .ref (qa g 111)), (3, .ref (qa g 126)), (4, .int v4), (5, .int r3)]) dL_law_1687 (by decide) rfl ?_
  refine q_norm [1, 2, 3, 4, 5, 6, 0] rfl ?_
  refine q_aload_n C 2 dL_law_1689 rfl rfl ?_
  refine q_callVi0 C ltp_111 (qmem_o kd_111 (Nat.le_of_ble_eq_true rfl)) rfl rfl (kX8_thrown S7) lwL_104 rfl (rest := []) rfl (Nat.le_of_ble_eq_true rfl) dL_law_1690 ⟨rfl, rfl, Nat.le_of_ble_eq_true rfl, Nat.le_of_ble_eq_true rfl, (by omega : _ ≤ 601024), (by omega : _ ≤ 7293034)⟩ ?_
  refine q_iload C 5 dL_law_1693 rfl ?_
  refine q_icmp_eq (tgt := 1700) C h dL_law_1695 (by decide) (fun h => ?_) (fun h => ?_)
  · refine q_iload C 5 dL_law_1700 rfl ?_
    refine q_if_ne (tgt := 1717) C h dL_law_1702 (by decide) (fun h => ?_) (fun h => ?_)
    · refine q_goto (tgt := 1776) C dL_law_1717 (by decide) ?_
      obtain rfl := Option.some.inj h
      refine q_widen (k := c0 + 2) (n := s0 + 12) (by omega) (by omega) ?_
      refine q_norm [0, 1, 2, 3, 4] rfl ?_
      exact hk
    · refine q_aload_n C 3 dL_law_1705 rfl rfl ?_
      refine q_iconst (v := 0) C dL_law_1706 (by decide) ?_
      refine s_lald C ltp_126 kd_126 (by decide) dL_law_1707 ?_
      refine q_iload C 6 dL_law_1708 rfl ?_
      refine q_i2l C dL_law_1710 rfl ?_
      refine q_lcmp C dL_law_1711 ?_
      refine q_if_eq (tgt := 1717) C h dL_law_1712 (by decide) (fun h => ?_) (fun h => ?_)
      · refine q_goto (tgt := 1776) C dL_law_1717 (by decide) ?_
        obtain rfl := Option.some.inj h
        refine q_widen (k := c0 + 2) (n := s0 + 12) (by omega) (by omega) ?_
        refine q_norm [0, 1, 2, 3, 4] rfl ?_
        exact hk
      · cases h
  · cases h
def CL_1720 (n : Nat) (xs : Nat → Int32) (L : Nat) (v4 : Int32) (S : qSt) : Option qSt := if qin (v4 + 1) L = true then ob2 (FL_restore n (xs (v4 + 1).toNatClampNeg) S) fun r3 S4 => ob2 (F8_restore n (xs (v4 + 1).toNatClampNeg) S4) fun r6 S7 => if (F8_thrown S7) = r3 then (if ¬ r3 = 0 then (some S7) else (if (lg_cmp ((S7 126 (0 : Int32).toNatClampNeg).toInt64) r6.toInt64) = 0 then (some S7) else (none))) else (none) else none
set_option maxRecDepth 100000 in
set_option maxHeartbeats 4000000 in
theorem WL_1720 {S2 : qSt} {Q : State → Prop} {c0 s0 : Nat} (C : qC g cL_law RL 7 p s m meth c) (hl9 : l.stackTraces = false) (hX : va_X b L xs s s.heap) (hbl : b < s.heap.size) (hbA : ¬ qA g b) (hc0 : c0 + 2 ≤ 601024) (hs0 : s0 + 12 ≤ 7293034) (n : Nat) (v4 : Int32) (S : qSt) (h : CL_1720 n xs L v4 S = some S2) (hk : qR g NL qT 7 p l e room_1 s m args below meth c (c0 + 2) (s0 + 12) Q (qmem g S2) 1776 [(0, .ref b), (1, .ref (qa g 0)), (2, .ref (qa g 111)), (3, .ref (qa g 126)), (4, .int v4)] []) : qR g NL qT 7 p l e room_1 s m args below meth c c0 s0 Q (qmem g S) 1720 [(0, .ref b), (1, .ref (qa g 0)), (2, .ref (qa g 111)), (3, .ref (qa g 126)), (4, .int v4)] [] := by
  unfold CL_1720 at h
  refine q_aload_n C 1 dL_law_1720 rfl rfl ?_
  refine q_aload_n C 0 dL_law_1721 rfl rfl ?_
  refine q_iload C 4 dL_law_1722 rfl ?_
  refine q_iconst (v := 1) C dL_law_1724 (by decide) ?_
  refine q_iadd C dL_law_1725 ?_
  obtain ⟨hb1, h⟩ := q_if h
  refine q_sld C hX hbl hbA hb1 dL_law_1726 ?_
  refine q_aload_n C 3 dL_law_1727 rfl rfl ?_
  obtain ⟨r3, S4, hc2, h⟩ := ob2_e h
  refine q_callW C (kL_restore hl9 n (xs (v4 + 1).toNatClampNeg) S hc2) lwL_198 rfl (rest := []) rfl (Nat.le_of_ble_eq_true rfl) dL_law_1728 ⟨rfl, rfl, Nat.le_of_ble_eq_true rfl, Nat.le_of_ble_eq_true rfl, (by omega : _ ≤ 601024), (by omega : _ ≤ 7293034)⟩ ?_
  refine q_istore C (lv' := [(5, .int r3), (0, .ref b), (1, .ref (qa g 0)), (2, .ref (qa g 111)), (3, .ref (qa g 126)), (4, .int v4)]) dL_law_1731 (by decide) rfl ?_
  refine q_norm [1, 2, 3, 4, 5, 0] rfl ?_
  refine q_aload_n C 2 dL_law_1733 rfl rfl ?_
  refine q_aload_n C 0 dL_law_1734 rfl rfl ?_
  refine q_iload C 4 dL_law_1735 rfl ?_
  refine q_iconst (v := 1) C dL_law_1737 (by decide) ?_
  refine q_iadd C dL_law_1738 ?_
  refine q_sld C hX hbl hbA hb1 dL_law_1739 ?_
  obtain ⟨r6, S7, hc5, h⟩ := ob2_e h
  refine q_callVi0 C ltp_111 (qmem_o kd_111 (Nat.le_of_ble_eq_true rfl)) rfl rfl (kX8_restore n (xs (v4 + 1).toNatClampNeg) S4 hc5) lwL_200 rfl (rest := []) rfl (Nat.le_of_ble_eq_true rfl) dL_law_1740 ⟨rfl, rfl, Nat.le_of_ble_eq_true rfl, Nat.le_of_ble_eq_true rfl, (by omega : _ ≤ 601024), (by omega : _ ≤ 7293034)⟩ ?_
  refine q_istore C (lv' := [(6, .int r6), (0, .ref b), (1, .ref (qa g 0)), (2, .ref (qa g 111)), (3, .ref (qa g 126)), (4, .int v4), (5, .int r3)]) dL_law_1743 (by decide) rfl ?_
  refine q_norm [1, 2, 3, 4, 5, 6, 0] rfl ?_
  refine q_aload_n C 2 dL_law_1745 rfl rfl ?_
  refine q_callVi0 C ltp_111 (qmem_o kd_111 (Nat.le_of_ble_eq_true rfl)) rfl rfl (kX8_thrown S7) lwL_104 rfl (rest := []) rfl (Nat.le_of_ble_eq_true rfl) dL_law_1746 ⟨rfl, rfl, Nat.le_of_ble_eq_true rfl, Nat.le_of_ble_eq_true rfl, (by omega : _ ≤ 601024), (by omega : _ ≤ 7293034)⟩ ?_
  refine q_iload C 5 dL_law_1749 rfl ?_
  refine q_icmp_eq (tgt := 1756) C h dL_law_1751 (by decide) (fun h => ?_) (fun h => ?_)
  · refine q_iload C 5 dL_law_1756 rfl ?_
    refine q_if_ne (tgt := 1773) C h dL_law_1758 (by decide) (fun h => ?_) (fun h => ?_)
    · refine q_goto (tgt := 1776) C dL_law_1773 (by decide) ?_
      obtain rfl := Option.some.inj h
      refine q_widen (k := c0 + 2) (n := s0 + 12) (by omega) (by omega) ?_
      refine q_norm [0, 1, 2, 3, 4] rfl ?_
      exact hk
    · refine q_aload_n C 3 dL_law_1761 rfl rfl ?_
      refine q_iconst (v := 0) C dL_law_1762 (by decide) ?_
      refine s_lald C ltp_126 kd_126 (by decide) dL_law_1763 ?_
      refine q_iload C 6 dL_law_1764 rfl ?_
      refine q_i2l C dL_law_1766 rfl ?_
      refine q_lcmp C dL_law_1767 ?_
      refine q_if_eq (tgt := 1773) C h dL_law_1768 (by decide) (fun h => ?_) (fun h => ?_)
      · refine q_goto (tgt := 1776) C dL_law_1773 (by decide) ?_
        obtain rfl := Option.some.inj h
        refine q_widen (k := c0 + 2) (n := s0 + 12) (by omega) (by omega) ?_
        refine q_norm [0, 1, 2, 3, 4] rfl ?_
        exact hk
      · cases h
  · cases h
def lawStep (n : Nat) (xs : Nat → Int32) (L : Nat) (v4 : Int32) (S : qSt) : Option qSt := if (xs v4.toNatClampNeg &&& 31) = 0 then CL_164 n xs L v4 S else if (xs v4.toNatClampNeg &&& 31) = 1 then CL_220 n xs L v4 S else if (xs v4.toNatClampNeg &&& 31) = 2 then CL_233 n xs L v4 S else if (xs v4.toNatClampNeg &&& 31) = 3 then CL_274 n xs L v4 S else if (xs v4.toNatClampNeg &&& 31) = 4 then CL_318 n xs L v4 S else if (xs v4.toNatClampNeg &&& 31) = 5 then CL_374 n xs L v4 S else if (xs v4.toNatClampNeg &&& 31) = 6 then CL_442 n xs L v4 S else if (xs v4.toNatClampNeg &&& 31) = 7 then CL_510 n xs L v4 S else if (xs v4.toNatClampNeg &&& 31) = 8 then CL_578 n xs L v4 S else if (xs v4.toNatClampNeg &&& 31) = 9 then CL_634 n xs L v4 S else if (xs v4.toNatClampNeg &&& 31) = 10 then CL_678 n xs L v4 S else if (xs v4.toNatClampNeg &&& 31) = 11 then CL_758 n xs L v4 S else if (xs v4.toNatClampNeg &&& 31) = 12 then CL_814 n xs L v4 S else if (xs v4.toNatClampNeg &&& 31) = 13 then CL_882 n xs L v4 S else if (xs v4.toNatClampNeg &&& 31) = 14 then CL_966 n xs L v4 S else if (xs v4.toNatClampNeg &&& 31) = 15 then CL_1034 n xs L v4 S else if (xs v4.toNatClampNeg &&& 31) = 16 then CL_1078 n xs L v4 S else if (xs v4.toNatClampNeg &&& 31) = 17 then CL_1122 n xs L v4 S else if (xs v4.toNatClampNeg &&& 31) = 18 then CL_1178 n xs L v4 S else if (xs v4.toNatClampNeg &&& 31) = 19 then CL_1246 n xs L v4 S else if (xs v4.toNatClampNeg &&& 31) = 20 then CL_1259 n xs L v4 S else if (xs v4.toNatClampNeg &&& 31) = 21 then CL_1315 n xs L v4 S else if (xs v4.toNatClampNeg &&& 31) = 22 then CL_1395 n xs L v4 S else if (xs v4.toNatClampNeg &&& 31) = 23 then CL_1451 n xs L v4 S else if (xs v4.toNatClampNeg &&& 31) = 24 then CL_1464 n xs L v4 S else if (xs v4.toNatClampNeg &&& 31) = 25 then CL_1564 n xs L v4 S else if (xs v4.toNatClampNeg &&& 31) = 26 then CL_1664 n xs L v4 S else if (xs v4.toNatClampNeg &&& 31) = 27 then CL_1720 n xs L v4 S else some S
set_option maxRecDepth 100000 in
set_option maxHeartbeats 4000000 in
theorem WL_step {S2 : qSt} {Q : State → Prop} {c0 s0 : Nat} (C : qC g cL_law RL 7 p s m meth c) (hl9 : l.stackTraces = false) (hX : va_X b L xs s s.heap) (hbl : b < s.heap.size) (hbA : ¬ qA g b) (hc0 : c0 + 2 ≤ 601024) (hs0 : s0 + 12 ≤ 7293034) (n : Nat) (v4 : Int32) (S : qSt) (hin : qin v4 L = true) (h : lawStep n xs L v4 S = some S2) (hk : qR g NL qT 7 p l e room_1 s m args below meth c (c0 + 2) (s0 + 12) Q (qmem g S2) 1776 [(0, .ref b), (1, .ref (qa g 0)), (2, .ref (qa g 111)), (3, .ref (qa g 126)), (4, .int v4)] []) : qR g NL qT 7 p l e room_1 s m args below meth c c0 s0 Q (qmem g S) 32 [(0, .ref b), (1, .ref (qa g 0)), (2, .ref (qa g 111)), (3, .ref (qa g 126)), (4, .int v4)] [] := by
  unfold lawStep at h
  refine q_aload_n C 0 dL_law_32 rfl rfl ?_
  refine q_iload C 4 dL_law_33 rfl ?_
  refine q_sld C hX hbl hbA hin dL_law_35 ?_
  refine q_bipush (v := 31) C dL_law_36 (by decide) ?_
  refine q_iand C dL_law_38 ?_
  rcases q_ite h with ⟨q0, h⟩ | ⟨q0, h⟩
  · refine q_tableIn (off := 125) (tgt := 164) C dL_law_39 (by rw [q0]; decide) (by rw [q0]; decide) (by rw [q0]; rfl) (by decide) ?_
    exact WL_164 C hl9 hX hbl hbA hc0 hs0 n v4 S h hk
  rcases q_ite h with ⟨q1, h⟩ | ⟨q1, h⟩
  · refine q_tableIn (off := 181) (tgt := 220) C dL_law_39 (by rw [q1]; decide) (by rw [q1]; decide) (by rw [q1]; rfl) (by decide) ?_
    exact WL_220 C hl9 hX hbl hbA hc0 hs0 n v4 S h hk
  rcases q_ite h with ⟨q2, h⟩ | ⟨q2, h⟩
  · refine q_tableIn (off := 194) (tgt := 233) C dL_law_39 (by rw [q2]; decide) (by rw [q2]; decide) (by rw [q2]; rfl) (by decide) ?_
    exact WL_233 C hl9 hX hbl hbA hc0 hs0 n v4 S h hk
  rcases q_ite h with ⟨q3, h⟩ | ⟨q3, h⟩
  · refine q_tableIn (off := 235) (tgt := 274) C dL_law_39 (by rw [q3]; decide) (by rw [q3]; decide) (by rw [q3]; rfl) (by decide) ?_
    exact WL_274 C hl9 hX hbl hbA hc0 hs0 n v4 S h hk
  rcases q_ite h with ⟨q4, h⟩ | ⟨q4, h⟩
  · refine q_tableIn (off := 279) (tgt := 318) C dL_law_39 (by rw [q4]; decide) (by rw [q4]; decide) (by rw [q4]; rfl) (by decide) ?_
    exact WL_318 C hl9 hX hbl hbA hc0 hs0 n v4 S h hk
  rcases q_ite h with ⟨q5, h⟩ | ⟨q5, h⟩
  · refine q_tableIn (off := 335) (tgt := 374) C dL_law_39 (by rw [q5]; decide) (by rw [q5]; decide) (by rw [q5]; rfl) (by decide) ?_
    exact WL_374 C hl9 hX hbl hbA hc0 hs0 n v4 S h hk
  rcases q_ite h with ⟨q6, h⟩ | ⟨q6, h⟩
  · refine q_tableIn (off := 403) (tgt := 442) C dL_law_39 (by rw [q6]; decide) (by rw [q6]; decide) (by rw [q6]; rfl) (by decide) ?_
    exact WL_442 C hl9 hX hbl hbA hc0 hs0 n v4 S h hk
  rcases q_ite h with ⟨q7, h⟩ | ⟨q7, h⟩
  · refine q_tableIn (off := 471) (tgt := 510) C dL_law_39 (by rw [q7]; decide) (by rw [q7]; decide) (by rw [q7]; rfl) (by decide) ?_
    exact WL_510 C hl9 hX hbl hbA hc0 hs0 n v4 S h hk
  rcases q_ite h with ⟨q8, h⟩ | ⟨q8, h⟩
  · refine q_tableIn (off := 539) (tgt := 578) C dL_law_39 (by rw [q8]; decide) (by rw [q8]; decide) (by rw [q8]; rfl) (by decide) ?_
    exact WL_578 C hl9 hX hbl hbA hc0 hs0 n v4 S h hk
  rcases q_ite h with ⟨q9, h⟩ | ⟨q9, h⟩
  · refine q_tableIn (off := 595) (tgt := 634) C dL_law_39 (by rw [q9]; decide) (by rw [q9]; decide) (by rw [q9]; rfl) (by decide) ?_
    exact WL_634 C hl9 hX hbl hbA hc0 hs0 n v4 S h hk
  rcases q_ite h with ⟨q10, h⟩ | ⟨q10, h⟩
  · refine q_tableIn (off := 639) (tgt := 678) C dL_law_39 (by rw [q10]; decide) (by rw [q10]; decide) (by rw [q10]; rfl) (by decide) ?_
    exact WL_678 C hl9 hX hbl hbA hc0 hs0 n v4 S h hk
  rcases q_ite h with ⟨q11, h⟩ | ⟨q11, h⟩
  · refine q_tableIn (off := 719) (tgt := 758) C dL_law_39 (by rw [q11]; decide) (by rw [q11]; decide) (by rw [q11]; rfl) (by decide) ?_
    exact WL_758 C hl9 hX hbl hbA hc0 hs0 n v4 S h hk
  rcases q_ite h with ⟨q12, h⟩ | ⟨q12, h⟩
  · refine q_tableIn (off := 775) (tgt := 814) C dL_law_39 (by rw [q12]; decide) (by rw [q12]; decide) (by rw [q12]; rfl) (by decide) ?_
    exact WL_814 C hl9 hX hbl hbA hc0 hs0 n v4 S h hk
  rcases q_ite h with ⟨q13, h⟩ | ⟨q13, h⟩
  · refine q_tableIn (off := 843) (tgt := 882) C dL_law_39 (by rw [q13]; decide) (by rw [q13]; decide) (by rw [q13]; rfl) (by decide) ?_
    exact WL_882 C hl9 hX hbl hbA hc0 hs0 n v4 S h hk
  rcases q_ite h with ⟨q14, h⟩ | ⟨q14, h⟩
  · refine q_tableIn (off := 927) (tgt := 966) C dL_law_39 (by rw [q14]; decide) (by rw [q14]; decide) (by rw [q14]; rfl) (by decide) ?_
    exact WL_966 C hl9 hX hbl hbA hc0 hs0 n v4 S h hk
  rcases q_ite h with ⟨q15, h⟩ | ⟨q15, h⟩
  · refine q_tableIn (off := 995) (tgt := 1034) C dL_law_39 (by rw [q15]; decide) (by rw [q15]; decide) (by rw [q15]; rfl) (by decide) ?_
    exact WL_1034 C hl9 hX hbl hbA hc0 hs0 n v4 S h hk
  rcases q_ite h with ⟨q16, h⟩ | ⟨q16, h⟩
  · refine q_tableIn (off := 1039) (tgt := 1078) C dL_law_39 (by rw [q16]; decide) (by rw [q16]; decide) (by rw [q16]; rfl) (by decide) ?_
    exact WL_1078 C hl9 hX hbl hbA hc0 hs0 n v4 S h hk
  rcases q_ite h with ⟨q17, h⟩ | ⟨q17, h⟩
  · refine q_tableIn (off := 1083) (tgt := 1122) C dL_law_39 (by rw [q17]; decide) (by rw [q17]; decide) (by rw [q17]; rfl) (by decide) ?_
    exact WL_1122 C hl9 hX hbl hbA hc0 hs0 n v4 S h hk
  rcases q_ite h with ⟨q18, h⟩ | ⟨q18, h⟩
  · refine q_tableIn (off := 1139) (tgt := 1178) C dL_law_39 (by rw [q18]; decide) (by rw [q18]; decide) (by rw [q18]; rfl) (by decide) ?_
    exact WL_1178 C hl9 hX hbl hbA hc0 hs0 n v4 S h hk
  rcases q_ite h with ⟨q19, h⟩ | ⟨q19, h⟩
  · refine q_tableIn (off := 1207) (tgt := 1246) C dL_law_39 (by rw [q19]; decide) (by rw [q19]; decide) (by rw [q19]; rfl) (by decide) ?_
    exact WL_1246 C hl9 hX hbl hbA hc0 hs0 n v4 S h hk
  rcases q_ite h with ⟨q20, h⟩ | ⟨q20, h⟩
  · refine q_tableIn (off := 1220) (tgt := 1259) C dL_law_39 (by rw [q20]; decide) (by rw [q20]; decide) (by rw [q20]; rfl) (by decide) ?_
    exact WL_1259 C hl9 hX hbl hbA hc0 hs0 n v4 S h hk
  rcases q_ite h with ⟨q21, h⟩ | ⟨q21, h⟩
  · refine q_tableIn (off := 1276) (tgt := 1315) C dL_law_39 (by rw [q21]; decide) (by rw [q21]; decide) (by rw [q21]; rfl) (by decide) ?_
    exact WL_1315 C hl9 hX hbl hbA hc0 hs0 n v4 S h hk
  rcases q_ite h with ⟨q22, h⟩ | ⟨q22, h⟩
  · refine q_tableIn (off := 1356) (tgt := 1395) C dL_law_39 (by rw [q22]; decide) (by rw [q22]; decide) (by rw [q22]; rfl) (by decide) ?_
    exact WL_1395 C hl9 hX hbl hbA hc0 hs0 n v4 S h hk
  rcases q_ite h with ⟨q23, h⟩ | ⟨q23, h⟩
  · refine q_tableIn (off := 1412) (tgt := 1451) C dL_law_39 (by rw [q23]; decide) (by rw [q23]; decide) (by rw [q23]; rfl) (by decide) ?_
    exact WL_1451 C hl9 hX hbl hbA hc0 hs0 n v4 S h hk
  rcases q_ite h with ⟨q24, h⟩ | ⟨q24, h⟩
  · refine q_tableIn (off := 1425) (tgt := 1464) C dL_law_39 (by rw [q24]; decide) (by rw [q24]; decide) (by rw [q24]; rfl) (by decide) ?_
    exact WL_1464 C hl9 hX hbl hbA hc0 hs0 n v4 S h hk
  rcases q_ite h with ⟨q25, h⟩ | ⟨q25, h⟩
  · refine q_tableIn (off := 1525) (tgt := 1564) C dL_law_39 (by rw [q25]; decide) (by rw [q25]; decide) (by rw [q25]; rfl) (by decide) ?_
    exact WL_1564 C hl9 hX hbl hbA hc0 hs0 n v4 S h hk
  rcases q_ite h with ⟨q26, h⟩ | ⟨q26, h⟩
  · refine q_tableIn (off := 1625) (tgt := 1664) C dL_law_39 (by rw [q26]; decide) (by rw [q26]; decide) (by rw [q26]; rfl) (by decide) ?_
    exact WL_1664 C hl9 hX hbl hbA hc0 hs0 n v4 S h hk
  rcases q_ite h with ⟨q27, h⟩ | ⟨q27, h⟩
  · refine q_tableIn (off := 1681) (tgt := 1720) C dL_law_39 (by rw [q27]; decide) (by rw [q27]; decide) (by rw [q27]; rfl) (by decide) ?_
    exact WL_1720 C hl9 hX hbl hbA hc0 hs0 n v4 S h hk
  refine q_tableOut (tgt := 1776) C dL_law_39 (by have q0 := q_ne (k := 0) (by decide) q0; have q1 := q_ne (k := 1) (by decide) q1; have q2 := q_ne (k := 2) (by decide) q2; have q3 := q_ne (k := 3) (by decide) q3; have q4 := q_ne (k := 4) (by decide) q4; have q5 := q_ne (k := 5) (by decide) q5; have q6 := q_ne (k := 6) (by decide) q6; have q7 := q_ne (k := 7) (by decide) q7; have q8 := q_ne (k := 8) (by decide) q8; have q9 := q_ne (k := 9) (by decide) q9; have q10 := q_ne (k := 10) (by decide) q10; have q11 := q_ne (k := 11) (by decide) q11; have q12 := q_ne (k := 12) (by decide) q12; have q13 := q_ne (k := 13) (by decide) q13; have q14 := q_ne (k := 14) (by decide) q14; have q15 := q_ne (k := 15) (by decide) q15; have q16 := q_ne (k := 16) (by decide) q16; have q17 := q_ne (k := 17) (by decide) q17; have q18 := q_ne (k := 18) (by decide) q18; have q19 := q_ne (k := 19) (by decide) q19; have q20 := q_ne (k := 20) (by decide) q20; have q21 := q_ne (k := 21) (by decide) q21; have q22 := q_ne (k := 22) (by decide) q22; have q23 := q_ne (k := 23) (by decide) q23; have q24 := q_ne (k := 24) (by decide) q24; have q25 := q_ne (k := 25) (by decide) q25; have q26 := q_ne (k := 26) (by decide) q26; have q27 := q_ne (k := 27) (by decide) q27; omega) (by decide) ?_
  obtain rfl := Option.some.inj h
  refine q_widen (k := c0 + 2) (n := s0 + 12) (by omega) (by omega) ?_
  exact hk
/-- all rounds from i on: k bounds their number -/
def lawRun (n : Nat) (xs : Nat → Int32) (L : Nat) : Nat → Int32 → qSt → Option qSt
  | 0, _, _ => none
  | k + 1, v4, S => if Int32.ofNat L - 4 < v4 then some S else (if qin v4 L = true then ob1 (lawStep n xs L v4 S) fun S1 => lawRun n xs L k (v4 + 4) S1 else none)
set_option maxRecDepth 100000 in
set_option maxHeartbeats 4000000 in
theorem WL_loop {Q : State → Prop} (C : qC g cL_law RL 7 p s m meth c) (hl9 : l.stackTraces = false) (hX : va_X b L xs s s.heap) (hbl : b < s.heap.size) (hbA : ¬ qA g b) (n : Nat) (hk : ∀ (S : qSt) (v4 : Int32) (c0 s0 : Nat), c0 ≤ 601024 → s0 ≤ 7293034 → qR g NL qT 7 p l e room_1 s m args below meth c c0 s0 Q (qmem g S) 1782 [(0, .ref b), (1, .ref (qa g 0)), (2, .ref (qa g 111)), (3, .ref (qa g 126)), (4, .int v4)] []) : ∀ (k : Nat) (v4 : Int32) (S S2 : qSt) (c0 s0 : Nat), c0 + 2 * k ≤ 601024 → s0 + 12 * k ≤ 7293034 → lawRun n xs L k v4 S = some S2 → qR g NL qT 7 p l e room_1 s m args below meth c c0 s0 Q (qmem g S) 23 [(0, .ref b), (1, .ref (qa g 0)), (2, .ref (qa g 111)), (3, .ref (qa g 126)), (4, .int v4)] [] := by
  intro k
  induction k with
  | zero => intro v4 S S2 c0 s0 h1 h2 h; have h9 : (none : Option qSt) = some S2 := h; cases h9
  | succ k ih =>
    intro v4 S S2 c0 s0 h1 h2 h
    rw [lawRun] at h
    refine q_iload C 4 dL_law_23 rfl ?_
    refine q_aload_n C 0 dL_law_25 rfl rfl ?_
    refine q_slen C hX hbl hbA dL_law_26 ?_
    refine q_iconst (v := 4) C dL_law_27 (by decide) ?_
    refine q_isub C dL_law_28 ?_
    refine q_icmp_gt (tgt := 1782) C h dL_law_29 (by decide) (fun h => ?_) (fun h => ?_)
    · exact hk S v4 c0 s0 (by omega) (by omega)
    · obtain ⟨hin, h⟩ := q_if h
      obtain ⟨S1, hs, h⟩ := ob1_e h
      refine WL_step C hl9 hX hbl hbA (by omega) (by omega) n v4 S hin hs ?_
      refine q_iinc C 4 (v := v4 + 4) (lv' := [(4, .int (v4 + 4)), (0, .ref b), (1, .ref (qa g 0)), (2, .ref (qa g 111)), (3, .ref (qa g 126))]) dL_law_1776 rfl rfl (by decide) rfl ?_
      refine q_norm [1, 2, 3, 4, 0] rfl ?_
      refine q_goto (tgt := 23) C dL_law_1779 (by decide) ?_
      exact ih (v4 + 4) S1 S2 (c0 + 2) (s0 + 12) (by omega) (by omega) h
end
