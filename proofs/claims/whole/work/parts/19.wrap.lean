/-! THE LAW'S OWN METHODS: a call, its exceptions caught -/
/-- an exception of class E stands over the frame -/
def qRX (g : qG) (nL : Nat) (p : Program) (l : Launch) (e : Env) (R : Room) (s : State) (m : MethodId) (args : Array Value) (below : List Frame) (meth : Method) (c : Code) (cells slots : Nat) (Q : State → Prop) (S : qSt) (pc : Nat) (lv : List (Nat × Value)) (rest : List Value) (E : String) : Prop :=
  ∀ (H : Heap) (locs : List Loc) (ls : Array Slot) (q9 : Addr) (ce : Cell), va_P g.1 vwCl (qW g NL (qmem g S)) H → va_S (qA g) s.heap H locs → lv_has ls nL lv → H[q9]? = some ce → ce.vm = .none → s.vm.findClass E = some ce.cls → vx_W p l e R s m args below meth c H locs cells slots Q (F0 m pc ls rest) q9
section QWR
variable {g : qG} {nL : Nat} {p : Program} {l : Launch} {e : Env} {R : Room} {s : State} {m : MethodId} {args : Array Value} {below : List Frame} {meth : Method} {c : Code} {cells slots : Nat} {Q : State → Prop} {S : qSt} {pc : Nat} {lv : List (Nat × Value)} {rest : List Value} {cc : ByteArray} {own : String}
theorem q_catch (C : qC g cc own nL p s m meth c) {E : String} (pre : List ExceptionTableEntry) (x : ExceptionTableEntry) (suf : List ExceptionTableEntry) (hsplit : c.exceptionTable.toList = pre ++ x :: suf) (hpass : ∀ z ∈ pre, z.catchType ≠ 0 ∧ ∃ nm : String, qw (.classLink own z.catchType nm) ∧ (E, nm) ∈ qNc) (hx : covers x pc = true) (h0 : x.catchType ≠ 0) (hlink : qw (.classLink own x.catchType E)) (hcast : E ∈ qCast) (k : ∀ q9 : Nat, qR g NL qT nL p l e R s m args below meth c cells slots Q (qmem g S) x.handlerPc lv [.ref q9]) : qRX g nL p l e R s m args below meth c cells slots Q S pc lv rest E :=
  fun H locs ls q9 ce hP hS hl h1 h2 h3 => vx_catch C.2.2.2.1 pre x suf hsplit (fun z hz => Or.inr ⟨(hpass z hz).1, by obtain ⟨nm, a1, a2⟩ := (hpass z hz).2; exact ⟨nm, C.w a1, C.I.2.2.2.2.2.2.2.2.2.2.2.1 (E, nm) a2⟩⟩) hx h0 (C.w hlink) (va_Nw.use rfl (C.I.2.2.2.1 E hcast)) h1 h2 h3 (k q9 H locs ls hP trivial hS hl)
theorem q_xcallC (C : qC g cc own nL p s m meth c) {y : MethodName} {bytes : ByteArray} {rm : Room} {maxL n mc1 ms1 index : Nat} {As st0 : List Value} {ret : Option FieldType} {o1 : qOut} {S1 : qSt} {o ci : Nat} {fs : List Value} {q : vw_C} (ho : o < NL) (hMo : qmem g S o = .inr (ci, fs)) (hc : vwCl[ci]? = some q) (hq : q.1 = y.cls) (hM : vx_Met l y [.code y bytes maxL ret] rm (qPc g NL qT (qmem g S) (.ref (qa g o) :: As)) (qXi g o1 S1) (qXC g o1 S1) mc1 ms1 (qA g)) (L : qLV own index y bytes maxL ret n) (hn : As.length = n) (hst : st0 = As.reverse ++ .ref (qa g o) :: rest) (hcat : (rest.map fun v => v.category).sum ≤ 8) (hdg : decode cc pc = .ok (.invokevirtual index, 3)) (hrm : qRm rm R maxL cells slots mc1 ms1)
    (kx : ∀ (k : Nat) (E : String), o1 = .inr k → qCast[k]? = some E → qRX g nL p l e R s m args below meth c (cells + mc1) (slots + ms1) Q S1 pc lv rest E) (k : ∀ r : Int32, o1 = .inl r → qR g NL qT nL p l e R s m args below meth c (cells + mc1) (slots + ms1) Q (qmem g S1) (pc + 3) lv (.int r :: rest)) : qR g NL qT nL p l e R s m args below meth c cells slots Q (qmem g S) pc lv st0 := by
  intro H locs ls hP hh hS hl
  refine vx_calli (vx_runV (As := As) (rest := rest) (Ts := []) ⟨C.1, C.2.1, C.2.2.1, C.2.2.2.1, fun w h => nomatch h⟩ hM (L.cw (R := R) (args := args) C hrm) ⟨qPc_blind _ _ _ _ _, hq ▸ va_recv C.K hP (q0 := o) (fs := fs) hc (by rw [qW_at ho, hMo]), C.at hP hh hS _⟩ rfl hn hl.1 hst (lv_room hcat) hdg ⟨hrm.2.2.2.2.1, hrm.2.2.2.2.2⟩) hS (fun q _ h => h) (fun q h => h) (fun q _ h => h) ?_ (fun r u t H1 locs1 ht hvm hw hB hz0 hk1 hS1 => by rw [← ht] at hS1 ⊢; exact k r hw _ _ ls hB.1 hB.2 hS1 hl)
  intro E ce q9 u t H1 locs1 ht hvm hu hB hsz hkp hS1 hcell hv hcl
  obtain ⟨⟨k9, e1, e2⟩, hE1, hE2⟩ := hB
  rw [← ht] at hS1 hcell ⊢
  exact kx k9 E e1 e2 _ _ ls q9 ce hE1 hS1 hl hcell hv hcl
end QWR
/-- a contract of a method with handlers -/
theorem q_wmet {l : Launch} {g : qG} {M : Nat → va_E} {y : MethodName} {cc : ByteArray} {nL mc ms : Nat} {ret : Option FieldType} {rm : Room} {av : List Value} {Qc : Array Value → State → Outcome → State → Prop} {hh : List (Nat × Nat × Nat × Nat)} (hy : plainName y.cls = true) (hnL : (lg_sl av).length ≤ nL)
    (body : ∀ (p : Program) (e : Env) (s : State) (m : MethodId) (args : Array Value) (below : List Frame) (meth : Method) (c : Code), qC g cc y.cls nL p s m meth c → meth.sig.returnType = ret → c.exceptionTable.toList = tableOf hh → qR g NL qT nL p l e rm s m args below meth c 0 0 (MQ below Qc args s mc ms (qA g)) M 0 (lv_args 0 av) []) : Met l y [.codeWith y cc nL ret hh] rm (qPc g NL qT M av) Qc mc ms (qA g) := by
  refine va_MetW (cc := cc) (maxL := nL) (ret := ret) (hh := hh) hy rfl ?_
  intro p e s m args below meth c s₁ B hml hv
  obtain ⟨rfl, hI, ⟨hP, hh9⟩, hb⟩ := hv
  have htab : c.exceptionTable.toList = tableOf hh := vx_table (x := y) (hh := hh) B (atoms_spec (ws := [.codeWith y cc nL ret hh]) B.pre _ List.mem_cons_self)
  have hC : qC g cc y.cls nL p s m meth c := ⟨B.exec, B.bytes, hml, findClass_of_methodNamed B.named, B.notSynchronized, hI, hb⟩
  rw [lg_entry_eq]
  exact body p e s m av.toArray below meth c hC B.returns htab s.heap [] _ hP hh9 va_S.rf (lv_entry av hnL)
theorem lxL_13 : qw (.classLink RL 13 "java/lang/IllegalArgumentException") := (qwi 498 (by decide +kernel) (by decide +kernel))
theorem lxL_15 : qw (.classLink RL 15 "java/lang/IllegalStateException") := (qwi 499 (by decide +kernel) (by decide +kernel))
theorem lxL_28 : qw (.classLink RL 28 "java/lang/IndexOutOfBoundsException") := (qwi 630 (by decide +kernel) (by decide +kernel))
set_option maxRecDepth 20000 in
theorem wrap0 : True := trivial
section
variable {l : Launch} {g : qG} {p : Program} {e : Env} {s : State} {m : MethodId} {args : Array Value} {below : List Frame} {meth : Method} {c : Code}
def FL_append (v1 : Int32) (S : qSt) : Option (Int32 × qSt) := obx (F7_append v1 S) (fun r1 S1 => some (0, qup S1 126 (0 : Int32).toNatClampNeg r1)) (fun k S1 => if k = 0 then some (1, S1) else if k = 1 then some (2, S1) else none)
abbrev rmL_append : Room := { frames := 7, cells := 1, slots := 6, locals := 280 }
set_option maxRecDepth 100000 in
set_option maxHeartbeats 4000000 in
theorem kL_append {l : Launch} {g : qG} (hl9 : l.stackTraces = false) (v1 : Int32) (S : qSt) {r : Int32} {S2 : qSt} (h : FL_append v1 S = some (r, S2)) : Met l yL_append [.codeWith yL_append cL_append 4 (some .int) [(0, 9, 12, 13), (0, 9, 15, 15)]] rmL_append (qPc g NL qT (qmem g S) [.ref (qa g 0), .int v1, .ref (qa g 126)]) (qQi g NL qT (qmem g S2) r) 1 6 (qA g) := by
  refine q_wmet (by decide) (Nat.le_of_ble_eq_true rfl) (fun p e s m args below meth c C hr htab => ?_)
  have C : qC g cL_append RL 4 p s m meth c := C
  show qR g NL qT 4 p l e rmL_append s m args below meth c 0 0 (MQ below (qQi g NL qT (qmem g S2) r) args s 1 6 (qA g)) (qmem g S) 0 [(0, .ref (qa g 0)), (1, .int v1), (2, .ref (qa g 126))] []
  unfold FL_append at h
  refine q_aload_n C 2 dL_append_0 rfl rfl ?_
  refine q_iconst (v := 0) C dL_append_1 (by decide) ?_
  refine q_aload_n C 0 dL_append_2 rfl rfl ?_
  refine q_iload_n C 1 dL_append_3 rfl rfl ?_
  obtain ⟨o1, S1, hc, h1, h2⟩ := obx_e h
  refine q_xcallC C ltp_0 (qmem_o kd_0 (Nat.le_of_ble_eq_true rfl)) rfl rfl (kX7_append hl9 v1 S hc) lmL_7 rfl (rest := [.int 0, .ref (qa g 126)]) rfl (Nat.le_of_ble_eq_true rfl) dL_append_4 ⟨rfl, rfl, Nat.le_of_ble_eq_true rfl, Nat.le_of_ble_eq_true rfl, Nat.le_of_ble_eq_true rfl, Nat.le_of_ble_eq_true rfl⟩ (fun k E hk hE => ?_) (fun r1 hr1 => ?_)
  · have h := h2 k hk
    rcases q_ite h with ⟨e0, h⟩ | ⟨e0, h⟩
    · subst e0
      cases hE
      refine q_catch C [] ⟨0, 9, 12, 13⟩ [⟨0, 9, 15, 15⟩] htab (fun z hz => nomatch hz) (by decide) (by decide) lxL_13 (by decide +kernel) (fun q9 => ?_)
      refine q_astore_n C (lv' := [(3, .ref q9), (0, .ref (qa g 0)), (1, .int v1), (2, .ref (qa g 126))]) dL_append_12 rfl (by decide) rfl ?_
      refine q_iconst (v := 1) C dL_append_13 (by decide) ?_
      obtain ⟨rfl, rfl⟩ := Prod.mk.inj (Option.some.inj h)
      exact q_iret C hr (by decide) (by decide) dL_append_14
    rcases q_ite h with ⟨e1, h⟩ | ⟨e1, h⟩
    · subst e1
      cases hE
      refine q_catch C [⟨0, 9, 12, 13⟩] ⟨0, 9, 15, 15⟩ [] htab (fun z hz => by rw [List.mem_singleton.mp hz]; exact ⟨by decide, _, lxL_13, by decide +kernel⟩) (by decide) (by decide) lxL_15 (by decide +kernel) (fun q9 => ?_)
      refine q_astore_n C (lv' := [(3, .ref q9), (0, .ref (qa g 0)), (1, .int v1), (2, .ref (qa g 126))]) dL_append_15 rfl (by decide) rfl ?_
      refine q_iconst (v := 2) C dL_append_16 (by decide) ?_
      obtain ⟨rfl, rfl⟩ := Prod.mk.inj (Option.some.inj h)
      exact q_iret C hr (by decide) (by decide) dL_append_17
    cases h
  · have h := h1 r1 hr1
    refine q_i2l C dL_append_7 rfl ?_
    refine s_last C ltp_126 kd_126 (by decide) rfl dL_append_8 ?_
    refine q_goto (tgt := 18) C dL_append_9 (by decide) ?_
    refine q_iconst (v := 0) C dL_append_18 (by decide) ?_
    obtain ⟨rfl, rfl⟩ := Prod.mk.inj (Option.some.inj h)
    exact q_iret C hr (by decide) (by decide) dL_append_19
def FL_load (n : Nat)  (S : qSt) : Option (Int32 × qSt) := obx (F7_load n S) (fun r1 S1 => some (0, qup S1 126 (0 : Int32).toNatClampNeg r1)) (fun k S1 => if k = 1 then some (1, S1) else none)
abbrev rmL_load : Room := { frames := 7, cells := 1, slots := 6, locals := 280 }
set_option maxRecDepth 100000 in
set_option maxHeartbeats 4000000 in
theorem kL_load {l : Launch} {g : qG} (hl9 : l.stackTraces = false) (n : Nat)  (S : qSt) {r : Int32} {S2 : qSt} (h : FL_load n S = some (r, S2)) : Met l yL_load [.codeWith yL_load cL_load 3 (some .int) [(0, 8, 11, 15)]] rmL_load (qPc g NL qT (qmem g S) [.ref (qa g 0), .ref (qa g 126)]) (qQi g NL qT (qmem g S2) r) 1 6 (qA g) := by
  refine q_wmet (by decide) (Nat.le_of_ble_eq_true rfl) (fun p e s m args below meth c C hr htab => ?_)
  have C : qC g cL_load RL 3 p s m meth c := C
  show qR g NL qT 3 p l e rmL_load s m args below meth c 0 0 (MQ below (qQi g NL qT (qmem g S2) r) args s 1 6 (qA g)) (qmem g S) 0 [(0, .ref (qa g 0)), (1, .ref (qa g 126))] []
  unfold FL_load at h
  refine q_aload_n C 1 dL_load_0 rfl rfl ?_
  refine q_iconst (v := 0) C dL_load_1 (by decide) ?_
  refine q_aload_n C 0 dL_load_2 rfl rfl ?_
  obtain ⟨o1, S1, hc, h1, h2⟩ := obx_e h
  refine q_xcallC C ltp_0 (qmem_o kd_0 (Nat.le_of_ble_eq_true rfl)) rfl rfl (kX7_load hl9 n S hc) lmL_17 rfl (rest := [.int 0, .ref (qa g 126)]) rfl (Nat.le_of_ble_eq_true rfl) dL_load_3 ⟨rfl, rfl, Nat.le_of_ble_eq_true rfl, Nat.le_of_ble_eq_true rfl, Nat.le_of_ble_eq_true rfl, Nat.le_of_ble_eq_true rfl⟩ (fun k E hk hE => ?_) (fun r1 hr1 => ?_)
  · have h := h2 k hk
    rcases q_ite h with ⟨e0, h⟩ | ⟨e0, h⟩
    · subst e0
      cases hE
      refine q_catch C [] ⟨0, 8, 11, 15⟩ [] htab (fun z hz => nomatch hz) (by decide) (by decide) lxL_15 (by decide +kernel) (fun q9 => ?_)
      refine q_astore_n C (lv' := [(2, .ref q9), (0, .ref (qa g 0)), (1, .ref (qa g 126))]) dL_load_11 rfl (by decide) rfl ?_
      refine q_iconst (v := 1) C dL_load_12 (by decide) ?_
      obtain ⟨rfl, rfl⟩ := Prod.mk.inj (Option.some.inj h)
      exact q_iret C hr (by decide) (by decide) dL_load_13
    cases h
  · have h := h1 r1 hr1
    refine q_i2l C dL_load_6 rfl ?_
    refine s_last C ltp_126 kd_126 (by decide) rfl dL_load_7 ?_
    refine q_goto (tgt := 14) C dL_load_8 (by decide) ?_
    refine q_iconst (v := 0) C dL_load_14 (by decide) ?_
    obtain ⟨rfl, rfl⟩ := Prod.mk.inj (Option.some.inj h)
    exact q_iret C hr (by decide) (by decide) dL_load_15
def FL_about (n : Nat) (v1 : Int32) (S : qSt) : Option (Int32 × qSt) := obx (F7_about n v1 S) (fun r1 S1 => some (0, qup S1 126 (0 : Int32).toNatClampNeg r1)) (fun k S1 => if k = 0 then some (1, S1) else none)
abbrev rmL_about : Room := { frames := 7, cells := 1, slots := 6, locals := 280 }
set_option maxRecDepth 100000 in
set_option maxHeartbeats 4000000 in
theorem kL_about {l : Launch} {g : qG} (hl9 : l.stackTraces = false) (n : Nat) (v1 : Int32) (S : qSt) {r : Int32} {S2 : qSt} (h : FL_about n v1 S = some (r, S2)) : Met l yL_about [.codeWith yL_about cL_about 4 (some .int) [(0, 9, 12, 13)]] rmL_about (qPc g NL qT (qmem g S) [.ref (qa g 0), .int v1, .ref (qa g 126)]) (qQi g NL qT (qmem g S2) r) 1 6 (qA g) := by
  refine q_wmet (by decide) (Nat.le_of_ble_eq_true rfl) (fun p e s m args below meth c C hr htab => ?_)
  have C : qC g cL_about RL 4 p s m meth c := C
  show qR g NL qT 4 p l e rmL_about s m args below meth c 0 0 (MQ below (qQi g NL qT (qmem g S2) r) args s 1 6 (qA g)) (qmem g S) 0 [(0, .ref (qa g 0)), (1, .int v1), (2, .ref (qa g 126))] []
  unfold FL_about at h
  refine q_aload_n C 2 dL_about_0 rfl rfl ?_
  refine q_iconst (v := 0) C dL_about_1 (by decide) ?_
  refine q_aload_n C 0 dL_about_2 rfl rfl ?_
  refine q_iload_n C 1 dL_about_3 rfl rfl ?_
  obtain ⟨o1, S1, hc, h1, h2⟩ := obx_e h
  refine q_xcallC C ltp_0 (qmem_o kd_0 (Nat.le_of_ble_eq_true rfl)) rfl rfl (kX7_about hl9 n v1 S hc) lmL_21 rfl (rest := [.int 0, .ref (qa g 126)]) rfl (Nat.le_of_ble_eq_true rfl) dL_about_4 ⟨rfl, rfl, Nat.le_of_ble_eq_true rfl, Nat.le_of_ble_eq_true rfl, Nat.le_of_ble_eq_true rfl, Nat.le_of_ble_eq_true rfl⟩ (fun k E hk hE => ?_) (fun r1 hr1 => ?_)
  · have h := h2 k hk
    rcases q_ite h with ⟨e0, h⟩ | ⟨e0, h⟩
    · subst e0
      cases hE
      refine q_catch C [] ⟨0, 9, 12, 13⟩ [] htab (fun z hz => nomatch hz) (by decide) (by decide) lxL_13 (by decide +kernel) (fun q9 => ?_)
      refine q_astore_n C (lv' := [(3, .ref q9), (0, .ref (qa g 0)), (1, .int v1), (2, .ref (qa g 126))]) dL_about_12 rfl (by decide) rfl ?_
      refine q_iconst (v := 1) C dL_about_13 (by decide) ?_
      obtain ⟨rfl, rfl⟩ := Prod.mk.inj (Option.some.inj h)
      exact q_iret C hr (by decide) (by decide) dL_about_14
    cases h
  · have h := h1 r1 hr1
    refine q_i2l C dL_about_7 rfl ?_
    refine s_last C ltp_126 kd_126 (by decide) rfl dL_about_8 ?_
    refine q_goto (tgt := 15) C dL_about_9 (by decide) ?_
    refine q_iconst (v := 0) C dL_about_15 (by decide) ?_
    obtain ⟨rfl, rfl⟩ := Prod.mk.inj (Option.some.inj h)
    exact q_iret C hr (by decide) (by decide) dL_about_16
def FL_street (n : Nat) (v1 : Int32) (v2 : Int32) (S : qSt) : Option (Int32 × qSt) := obx (F7_street n v1 v2 S) (fun r1 S1 => some (0, qup S1 126 (0 : Int32).toNatClampNeg r1)) (fun k S1 => if k = 2 then some (1, S1) else if k = 0 then some (2, S1) else none)
abbrev rmL_street : Room := { frames := 8, cells := 2, slots := 12, locals := 320 }
set_option maxRecDepth 100000 in
set_option maxHeartbeats 4000000 in
theorem kL_street {l : Launch} {g : qG} (hl9 : l.stackTraces = false) (n : Nat) (v1 : Int32) (v2 : Int32) (S : qSt) {r : Int32} {S2 : qSt} (h : FL_street n v1 v2 S = some (r, S2)) : Met l yL_street [.codeWith yL_street cL_street 5 (some .int) [(0, 10, 13, 28), (0, 10, 17, 13)]] rmL_street (qPc g NL qT (qmem g S) [.ref (qa g 0), .int v1, .int v2, .ref (qa g 126)]) (qQi g NL qT (qmem g S2) r) 2 12 (qA g) := by
  refine q_wmet (by decide) (Nat.le_of_ble_eq_true rfl) (fun p e s m args below meth c C hr htab => ?_)
  have C : qC g cL_street RL 5 p s m meth c := C
  show qR g NL qT 5 p l e rmL_street s m args below meth c 0 0 (MQ below (qQi g NL qT (qmem g S2) r) args s 2 12 (qA g)) (qmem g S) 0 [(0, .ref (qa g 0)), (1, .int v1), (2, .int v2), (3, .ref (qa g 126))] []
  unfold FL_street at h
  refine q_aload_n C 3 dL_street_0 rfl rfl ?_
  refine q_iconst (v := 0) C dL_street_1 (by decide) ?_
  refine q_aload_n C 0 dL_street_2 rfl rfl ?_
  refine q_iload_n C 1 dL_street_3 rfl rfl ?_
  refine q_iload_n C 2 dL_street_4 rfl rfl ?_
  obtain ⟨o1, S1, hc, h1, h2⟩ := obx_e h
  refine q_xcallC C ltp_0 (qmem_o kd_0 (Nat.le_of_ble_eq_true rfl)) rfl rfl (kX7_street hl9 n v1 v2 S hc) lmL_24 rfl (rest := [.int 0, .ref (qa g 126)]) rfl (Nat.le_of_ble_eq_true rfl) dL_street_5 ⟨rfl, rfl, Nat.le_of_ble_eq_true rfl, Nat.le_of_ble_eq_true rfl, Nat.le_of_ble_eq_true rfl, Nat.le_of_ble_eq_true rfl⟩ (fun k E hk hE => ?_) (fun r1 hr1 => ?_)
  · have h := h2 k hk
    rcases q_ite h with ⟨e0, h⟩ | ⟨e0, h⟩
    · subst e0
      cases hE
      refine q_catch C [] ⟨0, 10, 13, 28⟩ [⟨0, 10, 17, 13⟩] htab (fun z hz => nomatch hz) (by decide) (by decide) lxL_28 (by decide +kernel) (fun q9 => ?_)
      refine q_astore C (lv' := [(4, .ref q9), (0, .ref (qa g 0)), (1, .int v1), (2, .int v2), (3, .ref (qa g 126))]) dL_street_13 (by decide) rfl ?_
      refine q_iconst (v := 1) C dL_street_15 (by decide) ?_
      obtain ⟨rfl, rfl⟩ := Prod.mk.inj (Option.some.inj h)
      exact q_iret C hr (by decide) (by decide) dL_street_16
    rcases q_ite h with ⟨e1, h⟩ | ⟨e1, h⟩
    · subst e1
      cases hE
      refine q_catch C [⟨0, 10, 13, 28⟩] ⟨0, 10, 17, 13⟩ [] htab (fun z hz => by rw [List.mem_singleton.mp hz]; exact ⟨by decide, _, lxL_28, by decide +kernel⟩) (by decide) (by decide) lxL_13 (by decide +kernel) (fun q9 => ?_)
      refine q_astore C (lv' := [(4, .ref q9), (0, .ref (qa g 0)), (1, .int v1), (2, .int v2), (3, .ref (qa g 126))]) dL_street_17 (by decide) rfl ?_
      refine q_iconst (v := 2) C dL_street_19 (by decide) ?_
      obtain ⟨rfl, rfl⟩ := Prod.mk.inj (Option.some.inj h)
      exact q_iret C hr (by decide) (by decide) dL_street_20
    cases h
  · have h := h1 r1 hr1
    refine q_i2l C dL_street_8 rfl ?_
    refine s_last C ltp_126 kd_126 (by decide) rfl dL_street_9 ?_
    refine q_goto (tgt := 21) C dL_street_10 (by decide) ?_
    refine q_iconst (v := 0) C dL_street_21 (by decide) ?_
    obtain ⟨rfl, rfl⟩ := Prod.mk.inj (Option.some.inj h)
    exact q_iret C hr (by decide) (by decide) dL_street_22
def FL_crossing (n : Nat) (v1 : Int32) (v2 : Int32) (S : qSt) : Option (Int32 × qSt) := obx (F7_crossing n v1 v2 S) (fun r1 S1 => some (0, qup S1 126 (0 : Int32).toNatClampNeg r1)) (fun k S1 => if k = 2 then some (1, S1) else if k = 0 then some (2, S1) else none)
abbrev rmL_crossing : Room := { frames := 8, cells := 2, slots := 12, locals := 320 }
set_option maxRecDepth 100000 in
set_option maxHeartbeats 4000000 in
theorem kL_crossing {l : Launch} {g : qG} (hl9 : l.stackTraces = false) (n : Nat) (v1 : Int32) (v2 : Int32) (S : qSt) {r : Int32} {S2 : qSt} (h : FL_crossing n v1 v2 S = some (r, S2)) : Met l yL_crossing [.codeWith yL_crossing cL_crossing 5 (some .int) [(0, 10, 13, 28), (0, 10, 17, 13)]] rmL_crossing (qPc g NL qT (qmem g S) [.ref (qa g 0), .int v1, .int v2, .ref (qa g 126)]) (qQi g NL qT (qmem g S2) r) 2 12 (qA g) := by
  refine q_wmet (by decide) (Nat.le_of_ble_eq_true rfl) (fun p e s m args below meth c C hr htab => ?_)
  have C : qC g cL_crossing RL 5 p s m meth c := C
  show qR g NL qT 5 p l e rmL_crossing s m args below meth c 0 0 (MQ below (qQi g NL qT (qmem g S2) r) args s 2 12 (qA g)) (qmem g S) 0 [(0, .ref (qa g 0)), (1, .int v1), (2, .int v2), (3, .ref (qa g 126))] []
  unfold FL_crossing at h
  refine q_aload_n C 3 dL_crossing_0 rfl rfl ?_
  refine q_iconst (v := 0) C dL_crossing_1 (by decide) ?_
  refine q_aload_n C 0 dL_crossing_2 rfl rfl ?_
  refine q_iload_n C 1 dL_crossing_3 rfl rfl ?_
  refine q_iload_n C 2 dL_crossing_4 rfl rfl ?_
  obtain ⟨o1, S1, hc, h1, h2⟩ := obx_e h
  refine q_xcallC C ltp_0 (qmem_o kd_0 (Nat.le_of_ble_eq_true rfl)) rfl rfl (kX7_crossing hl9 n v1 v2 S hc) lmL_30 rfl (rest := [.int 0, .ref (qa g 126)]) rfl (Nat.le_of_ble_eq_true rfl) dL_crossing_5 ⟨rfl, rfl, Nat.le_of_ble_eq_true rfl, Nat.le_of_ble_eq_true rfl, Nat.le_of_ble_eq_true rfl, Nat.le_of_ble_eq_true rfl⟩ (fun k E hk hE => ?_) (fun r1 hr1 => ?_)
  · have h := h2 k hk
    rcases q_ite h with ⟨e0, h⟩ | ⟨e0, h⟩
    · subst e0
      cases hE
      refine q_catch C [] ⟨0, 10, 13, 28⟩ [⟨0, 10, 17, 13⟩] htab (fun z hz => nomatch hz) (by decide) (by decide) lxL_28 (by decide +kernel) (fun q9 => ?_)
      refine q_astore C (lv' := [(4, .ref q9), (0, .ref (qa g 0)), (1, .int v1), (2, .int v2), (3, .ref (qa g 126))]) dL_crossing_13 (by decide) rfl ?_
      refine q_iconst (v := 1) C dL_crossing_15 (by decide) ?_
      obtain ⟨rfl, rfl⟩ := Prod.mk.inj (Option.some.inj h)
      exact q_iret C hr (by decide) (by decide) dL_crossing_16
    rcases q_ite h with ⟨e1, h⟩ | ⟨e1, h⟩
    · subst e1
      cases hE
      refine q_catch C [⟨0, 10, 13, 28⟩] ⟨0, 10, 17, 13⟩ [] htab (fun z hz => by rw [List.mem_singleton.mp hz]; exact ⟨by decide, _, lxL_28, by decide +kernel⟩) (by decide) (by decide) lxL_13 (by decide +kernel) (fun q9 => ?_)
      refine q_astore C (lv' := [(4, .ref q9), (0, .ref (qa g 0)), (1, .int v1), (2, .int v2), (3, .ref (qa g 126))]) dL_crossing_17 (by decide) rfl ?_
      refine q_iconst (v := 2) C dL_crossing_19 (by decide) ?_
      obtain ⟨rfl, rfl⟩ := Prod.mk.inj (Option.some.inj h)
      exact q_iret C hr (by decide) (by decide) dL_crossing_20
    cases h
  · have h := h1 r1 hr1
    refine q_i2l C dL_crossing_8 rfl ?_
    refine s_last C ltp_126 kd_126 (by decide) rfl dL_crossing_9 ?_
    refine q_goto (tgt := 21) C dL_crossing_10 (by decide) ?_
    refine q_iconst (v := 0) C dL_crossing_21 (by decide) ?_
    obtain ⟨rfl, rfl⟩ := Prod.mk.inj (Option.some.inj h)
    exact q_iret C hr (by decide) (by decide) dL_crossing_22
def FL_between (n : Nat) (v1 : Int32) (v2 : Int32) (S : qSt) : Option (Int32 × qSt) := obx (F7_between n v1 v2 S) (fun r1 S1 => some (0, qup S1 126 (0 : Int32).toNatClampNeg r1)) (fun k S1 => if k = 2 then some (1, S1) else none)
abbrev rmL_between : Room := { frames := 8, cells := 2, slots := 12, locals := 320 }
set_option maxRecDepth 100000 in
set_option maxHeartbeats 4000000 in
theorem kL_between {l : Launch} {g : qG} (hl9 : l.stackTraces = false) (n : Nat) (v1 : Int32) (v2 : Int32) (S : qSt) {r : Int32} {S2 : qSt} (h : FL_between n v1 v2 S = some (r, S2)) : Met l yL_between [.codeWith yL_between cL_between 5 (some .int) [(0, 10, 13, 28)]] rmL_between (qPc g NL qT (qmem g S) [.ref (qa g 0), .int v1, .int v2, .ref (qa g 126)]) (qQi g NL qT (qmem g S2) r) 2 12 (qA g) := by
  refine q_wmet (by decide) (Nat.le_of_ble_eq_true rfl) (fun p e s m args below meth c C hr htab => ?_)
  have C : qC g cL_between RL 5 p s m meth c := C
  show qR g NL qT 5 p l e rmL_between s m args below meth c 0 0 (MQ below (qQi g NL qT (qmem g S2) r) args s 2 12 (qA g)) (qmem g S) 0 [(0, .ref (qa g 0)), (1, .int v1), (2, .int v2), (3, .ref (qa g 126))] []
  unfold FL_between at h
  refine q_aload_n C 3 dL_between_0 rfl rfl ?_
  refine q_iconst (v := 0) C dL_between_1 (by decide) ?_
  refine q_aload_n C 0 dL_between_2 rfl rfl ?_
  refine q_iload_n C 1 dL_between_3 rfl rfl ?_
  refine q_iload_n C 2 dL_between_4 rfl rfl ?_
  obtain ⟨o1, S1, hc, h1, h2⟩ := obx_e h
  refine q_xcallC C ltp_0 (qmem_o kd_0 (Nat.le_of_ble_eq_true rfl)) rfl rfl (kX7_between hl9 n v1 v2 S hc) lmL_33 rfl (rest := [.int 0, .ref (qa g 126)]) rfl (Nat.le_of_ble_eq_true rfl) dL_between_5 ⟨rfl, rfl, Nat.le_of_ble_eq_true rfl, Nat.le_of_ble_eq_true rfl, Nat.le_of_ble_eq_true rfl, Nat.le_of_ble_eq_true rfl⟩ (fun k E hk hE => ?_) (fun r1 hr1 => ?_)
  · have h := h2 k hk
    rcases q_ite h with ⟨e0, h⟩ | ⟨e0, h⟩
    · subst e0
      cases hE
      refine q_catch C [] ⟨0, 10, 13, 28⟩ [] htab (fun z hz => nomatch hz) (by decide) (by decide) lxL_28 (by decide +kernel) (fun q9 => ?_)
      refine q_astore C (lv' := [(4, .ref q9), (0, .ref (qa g 0)), (1, .int v1), (2, .int v2), (3, .ref (qa g 126))]) dL_between_13 (by decide) rfl ?_
      refine q_iconst (v := 1) C dL_between_15 (by decide) ?_
      obtain ⟨rfl, rfl⟩ := Prod.mk.inj (Option.some.inj h)
      exact q_iret C hr (by decide) (by decide) dL_between_16
    cases h
  · have h := h1 r1 hr1
    refine q_i2l C dL_between_8 rfl ?_
    refine s_last C ltp_126 kd_126 (by decide) rfl dL_between_9 ?_
    refine q_goto (tgt := 17) C dL_between_10 (by decide) ?_
    refine q_iconst (v := 0) C dL_between_17 (by decide) ?_
    obtain ⟨rfl, rfl⟩ := Prod.mk.inj (Option.some.inj h)
    exact q_iret C hr (by decide) (by decide) dL_between_18
def FL_wayAt (n : Nat) (v1 : Int32) (S : qSt) : Option (Int32 × qSt) := obx (F7_wayAt n v1 S) (fun r1 S1 => some (0, qup S1 126 (0 : Int32).toNatClampNeg r1)) (fun k S1 => if k = 0 then some (1, S1) else none)
abbrev rmL_wayAt : Room := { frames := 8, cells := 1, slots := 6, locals := 320 }
set_option maxRecDepth 100000 in
set_option maxHeartbeats 4000000 in
theorem kL_wayAt {l : Launch} {g : qG} (hl9 : l.stackTraces = false) (n : Nat) (v1 : Int32) (S : qSt) {r : Int32} {S2 : qSt} (h : FL_wayAt n v1 S = some (r, S2)) : Met l yL_wayAt [.codeWith yL_wayAt cL_wayAt 4 (some .int) [(0, 9, 12, 13)]] rmL_wayAt (qPc g NL qT (qmem g S) [.ref (qa g 0), .int v1, .ref (qa g 126)]) (qQi g NL qT (qmem g S2) r) 1 6 (qA g) := by
  refine q_wmet (by decide) (Nat.le_of_ble_eq_true rfl) (fun p e s m args below meth c C hr htab => ?_)
  have C : qC g cL_wayAt RL 4 p s m meth c := C
  show qR g NL qT 4 p l e rmL_wayAt s m args below meth c 0 0 (MQ below (qQi g NL qT (qmem g S2) r) args s 1 6 (qA g)) (qmem g S) 0 [(0, .ref (qa g 0)), (1, .int v1), (2, .ref (qa g 126))] []
  unfold FL_wayAt at h
  refine q_aload_n C 2 dL_wayAt_0 rfl rfl ?_
  refine q_iconst (v := 0) C dL_wayAt_1 (by decide) ?_
  refine q_aload_n C 0 dL_wayAt_2 rfl rfl ?_
  refine q_iload_n C 1 dL_wayAt_3 rfl rfl ?_
  obtain ⟨o1, S1, hc, h1, h2⟩ := obx_e h
  refine q_xcallC C ltp_0 (qmem_o kd_0 (Nat.le_of_ble_eq_true rfl)) rfl rfl (kX7_wayAt hl9 n v1 S hc) lmL_36 rfl (rest := [.int 0, .ref (qa g 126)]) rfl (Nat.le_of_ble_eq_true rfl) dL_wayAt_4 ⟨rfl, rfl, Nat.le_of_ble_eq_true rfl, Nat.le_of_ble_eq_true rfl, Nat.le_of_ble_eq_true rfl, Nat.le_of_ble_eq_true rfl⟩ (fun k E hk hE => ?_) (fun r1 hr1 => ?_)
  · have h := h2 k hk
    rcases q_ite h with ⟨e0, h⟩ | ⟨e0, h⟩
    · subst e0
      cases hE
      refine q_catch C [] ⟨0, 9, 12, 13⟩ [] htab (fun z hz => nomatch hz) (by decide) (by decide) lxL_13 (by decide +kernel) (fun q9 => ?_)
      refine q_astore_n C (lv' := [(3, .ref q9), (0, .ref (qa g 0)), (1, .int v1), (2, .ref (qa g 126))]) dL_wayAt_12 rfl (by decide) rfl ?_
      refine q_iconst (v := 1) C dL_wayAt_13 (by decide) ?_
      obtain ⟨rfl, rfl⟩ := Prod.mk.inj (Option.some.inj h)
      exact q_iret C hr (by decide) (by decide) dL_wayAt_14
    cases h
  · have h := h1 r1 hr1
    refine q_i2l C dL_wayAt_7 rfl ?_
    refine s_last C ltp_126 kd_126 (by decide) rfl dL_wayAt_8 ?_
    refine q_goto (tgt := 15) C dL_wayAt_9 (by decide) ?_
    refine q_iconst (v := 0) C dL_wayAt_15 (by decide) ?_
    obtain ⟨rfl, rfl⟩ := Prod.mk.inj (Option.some.inj h)
    exact q_iret C hr (by decide) (by decide) dL_wayAt_16
def FL_addCrossing (n : Nat)  (S : qSt) : Option (Int32 × qSt) := obx (F7_addCrossing n S) (fun r1 S1 => some (0, qup S1 126 (0 : Int32).toNatClampNeg r1)) (fun k S1 => if k = 1 then some (1, S1) else none)
abbrev rmL_addCrossing : Room := { frames := 8, cells := 1, slots := 6, locals := 320 }
set_option maxRecDepth 100000 in
set_option maxHeartbeats 4000000 in
theorem kL_addCrossing {l : Launch} {g : qG} (hl9 : l.stackTraces = false) (n : Nat)  (S : qSt) {r : Int32} {S2 : qSt} (h : FL_addCrossing n S = some (r, S2)) : Met l yL_addCrossing [.codeWith yL_addCrossing cL_addCrossing 3 (some .int) [(0, 8, 11, 15)]] rmL_addCrossing (qPc g NL qT (qmem g S) [.ref (qa g 0), .ref (qa g 126)]) (qQi g NL qT (qmem g S2) r) 1 6 (qA g) := by
  refine q_wmet (by decide) (Nat.le_of_ble_eq_true rfl) (fun p e s m args below meth c C hr htab => ?_)
  have C : qC g cL_addCrossing RL 3 p s m meth c := C
  show qR g NL qT 3 p l e rmL_addCrossing s m args below meth c 0 0 (MQ below (qQi g NL qT (qmem g S2) r) args s 1 6 (qA g)) (qmem g S) 0 [(0, .ref (qa g 0)), (1, .ref (qa g 126))] []
  unfold FL_addCrossing at h
  refine q_aload_n C 1 dL_addCrossing_0 rfl rfl ?_
  refine q_iconst (v := 0) C dL_addCrossing_1 (by decide) ?_
  refine q_aload_n C 0 dL_addCrossing_2 rfl rfl ?_
  obtain ⟨o1, S1, hc, h1, h2⟩ := obx_e h
  refine q_xcallC C ltp_0 (qmem_o kd_0 (Nat.le_of_ble_eq_true rfl)) rfl rfl (kX7_addCrossing hl9 n S hc) lmL_39 rfl (rest := [.int 0, .ref (qa g 126)]) rfl (Nat.le_of_ble_eq_true rfl) dL_addCrossing_3 ⟨rfl, rfl, Nat.le_of_ble_eq_true rfl, Nat.le_of_ble_eq_true rfl, Nat.le_of_ble_eq_true rfl, Nat.le_of_ble_eq_true rfl⟩ (fun k E hk hE => ?_) (fun r1 hr1 => ?_)
  · have h := h2 k hk
    rcases q_ite h with ⟨e0, h⟩ | ⟨e0, h⟩
    · subst e0
      cases hE
      refine q_catch C [] ⟨0, 8, 11, 15⟩ [] htab (fun z hz => nomatch hz) (by decide) (by decide) lxL_15 (by decide +kernel) (fun q9 => ?_)
      refine q_astore_n C (lv' := [(2, .ref q9), (0, .ref (qa g 0)), (1, .ref (qa g 126))]) dL_addCrossing_11 rfl (by decide) rfl ?_
      refine q_iconst (v := 1) C dL_addCrossing_12 (by decide) ?_
      obtain ⟨rfl, rfl⟩ := Prod.mk.inj (Option.some.inj h)
      exact q_iret C hr (by decide) (by decide) dL_addCrossing_13
    cases h
  · have h := h1 r1 hr1
    refine q_i2l C dL_addCrossing_6 rfl ?_
    refine s_last C ltp_126 kd_126 (by decide) rfl dL_addCrossing_7 ?_
    refine q_goto (tgt := 14) C dL_addCrossing_8 (by decide) ?_
    refine q_iconst (v := 0) C dL_addCrossing_14 (by decide) ?_
    obtain ⟨rfl, rfl⟩ := Prod.mk.inj (Option.some.inj h)
    exact q_iret C hr (by decide) (by decide) dL_addCrossing_15
def FL_addStreet (n : Nat) (v1 : Int32) (v2 : Int32) (v3 : Int32) (S : qSt) : Option (Int32 × qSt) := obx (F7_addStreet n v1 v2 v3 S) (fun r1 S1 => some (0, qup S1 126 (0 : Int32).toNatClampNeg r1)) (fun k S1 => if k = 2 then some (1, S1) else if k = 0 then some (2, S1) else if k = 1 then some (3, S1) else none)
abbrev rmL_addStreet : Room := { frames := 8, cells := 1, slots := 6, locals := 320 }
set_option maxRecDepth 100000 in
set_option maxHeartbeats 4000000 in
theorem kL_addStreet {l : Launch} {g : qG} (hl9 : l.stackTraces = false) (n : Nat) (v1 : Int32) (v2 : Int32) (v3 : Int32) (S : qSt) {r : Int32} {S2 : qSt} (h : FL_addStreet n v1 v2 v3 S = some (r, S2)) : Met l yL_addStreet [.codeWith yL_addStreet cL_addStreet 6 (some .int) [(0, 12, 15, 28), (0, 12, 19, 13), (0, 12, 23, 15)]] rmL_addStreet (qPc g NL qT (qmem g S) [.ref (qa g 0), .int v1, .int v2, .int v3, .ref (qa g 126)]) (qQi g NL qT (qmem g S2) r) 1 6 (qA g) := by
  refine q_wmet (by decide) (Nat.le_of_ble_eq_true rfl) (fun p e s m args below meth c C hr htab => ?_)
  have C : qC g cL_addStreet RL 6 p s m meth c := C
  show qR g NL qT 6 p l e rmL_addStreet s m args below meth c 0 0 (MQ below (qQi g NL qT (qmem g S2) r) args s 1 6 (qA g)) (qmem g S) 0 [(0, .ref (qa g 0)), (1, .int v1), (2, .int v2), (3, .int v3), (4, .ref (qa g 126))] []
  unfold FL_addStreet at h
  refine q_aload C 4 dL_addStreet_0 rfl ?_
  refine q_iconst (v := 0) C dL_addStreet_2 (by decide) ?_
  refine q_aload_n C 0 dL_addStreet_3 rfl rfl ?_
  refine q_iload_n C 1 dL_addStreet_4 rfl rfl ?_
  refine q_iload_n C 2 dL_addStreet_5 rfl rfl ?_
  refine q_iload_n C 3 dL_addStreet_6 rfl rfl ?_
  obtain ⟨o1, S1, hc, h1, h2⟩ := obx_e h
  refine q_xcallC C ltp_0 (qmem_o kd_0 (Nat.le_of_ble_eq_true rfl)) rfl rfl (kX7_addStreet hl9 n v1 v2 v3 S hc) lmL_42 rfl (rest := [.int 0, .ref (qa g 126)]) rfl (Nat.le_of_ble_eq_true rfl) dL_addStreet_7 ⟨rfl, rfl, Nat.le_of_ble_eq_true rfl, Nat.le_of_ble_eq_true rfl, Nat.le_of_ble_eq_true rfl, Nat.le_of_ble_eq_true rfl⟩ (fun k E hk hE => ?_) (fun r1 hr1 => ?_)
  · have h := h2 k hk
    rcases q_ite h with ⟨e0, h⟩ | ⟨e0, h⟩
    · subst e0
      cases hE
      refine q_catch C [] ⟨0, 12, 15, 28⟩ [⟨0, 12, 19, 13⟩, ⟨0, 12, 23, 15⟩] htab (fun z hz => nomatch hz) (by decide) (by decide) lxL_28 (by decide +kernel) (fun q9 => ?_)
      refine q_astore C (lv' := [(5, .ref q9), (0, .ref (qa g 0)), (1, .int v1), (2, .int v2), (3, .int v3), (4, .ref (qa g 126))]) dL_addStreet_15 (by decide) rfl ?_
      refine q_iconst (v := 1) C dL_addStreet_17 (by decide) ?_
      obtain ⟨rfl, rfl⟩ := Prod.mk.inj (Option.some.inj h)
      exact q_iret C hr (by decide) (by decide) dL_addStreet_18
    rcases q_ite h with ⟨e1, h⟩ | ⟨e1, h⟩
    · subst e1
      cases hE
      refine q_catch C [⟨0, 12, 15, 28⟩] ⟨0, 12, 19, 13⟩ [⟨0, 12, 23, 15⟩] htab (fun z hz => by rw [List.mem_singleton.mp hz]; exact ⟨by decide, _, lxL_28, by decide +kernel⟩) (by decide) (by decide) lxL_13 (by decide +kernel) (fun q9 => ?_)
      refine q_astore C (lv' := [(5, .ref q9), (0, .ref (qa g 0)), (1, .int v1), (2, .int v2), (3, .int v3), (4, .ref (qa g 126))]) dL_addStreet_19 (by decide) rfl ?_
      refine q_iconst (v := 2) C dL_addStreet_21 (by decide) ?_
      obtain ⟨rfl, rfl⟩ := Prod.mk.inj (Option.some.inj h)
      exact q_iret C hr (by decide) (by decide) dL_addStreet_22
    rcases q_ite h with ⟨e2, h⟩ | ⟨e2, h⟩
    · subst e2
      cases hE
      refine q_catch C [⟨0, 12, 15, 28⟩, ⟨0, 12, 19, 13⟩] ⟨0, 12, 23, 15⟩ [] htab (List.forall_mem_cons.mpr ⟨⟨by decide, _, lxL_28, by decide +kernel⟩, List.forall_mem_cons.mpr ⟨⟨by decide, _, lxL_13, by decide +kernel⟩, fun _ h => nomatch h⟩⟩) (by decide) (by decide) lxL_15 (by decide +kernel) (fun q9 => ?_)
      refine q_astore C (lv' := [(5, .ref q9), (0, .ref (qa g 0)), (1, .int v1), (2, .int v2), (3, .int v3), (4, .ref (qa g 126))]) dL_addStreet_23 (by decide) rfl ?_
      refine q_iconst (v := 3) C dL_addStreet_25 (by decide) ?_
      obtain ⟨rfl, rfl⟩ := Prod.mk.inj (Option.some.inj h)
      exact q_iret C hr (by decide) (by decide) dL_addStreet_26
    cases h
  · have h := h1 r1 hr1
    refine q_i2l C dL_addStreet_10 rfl ?_
    refine s_last C ltp_126 kd_126 (by decide) rfl dL_addStreet_11 ?_
    refine q_goto (tgt := 27) C dL_addStreet_12 (by decide) ?_
    refine q_iconst (v := 0) C dL_addStreet_27 (by decide) ?_
    obtain ⟨rfl, rfl⟩ := Prod.mk.inj (Option.some.inj h)
    exact q_iret C hr (by decide) (by decide) dL_addStreet_28
def FL_removeStreet (n : Nat) (v1 : Int32) (S : qSt) : Option (Int32 × qSt) := obx (F7_removeStreet n v1 S) (fun r1 S1 => some (0, qup S1 126 (0 : Int32).toNatClampNeg r1)) (fun k S1 => if k = 2 then some (1, S1) else none)
abbrev rmL_removeStreet : Room := { frames := 8, cells := 1, slots := 6, locals := 320 }
set_option maxRecDepth 100000 in
set_option maxHeartbeats 4000000 in
theorem kL_removeStreet {l : Launch} {g : qG} (hl9 : l.stackTraces = false) (n : Nat) (v1 : Int32) (S : qSt) {r : Int32} {S2 : qSt} (h : FL_removeStreet n v1 S = some (r, S2)) : Met l yL_removeStreet [.codeWith yL_removeStreet cL_removeStreet 4 (some .int) [(0, 9, 12, 28)]] rmL_removeStreet (qPc g NL qT (qmem g S) [.ref (qa g 0), .int v1, .ref (qa g 126)]) (qQi g NL qT (qmem g S2) r) 1 6 (qA g) := by
  refine q_wmet (by decide) (Nat.le_of_ble_eq_true rfl) (fun p e s m args below meth c C hr htab => ?_)
  have C : qC g cL_removeStreet RL 4 p s m meth c := C
  show qR g NL qT 4 p l e rmL_removeStreet s m args below meth c 0 0 (MQ below (qQi g NL qT (qmem g S2) r) args s 1 6 (qA g)) (qmem g S) 0 [(0, .ref (qa g 0)), (1, .int v1), (2, .ref (qa g 126))] []
  unfold FL_removeStreet at h
  refine q_aload_n C 2 dL_removeStreet_0 rfl rfl ?_
  refine q_iconst (v := 0) C dL_removeStreet_1 (by decide) ?_
  refine q_aload_n C 0 dL_removeStreet_2 rfl rfl ?_
  refine q_iload_n C 1 dL_removeStreet_3 rfl rfl ?_
  obtain ⟨o1, S1, hc, h1, h2⟩ := obx_e h
  refine q_xcallC C ltp_0 (qmem_o kd_0 (Nat.le_of_ble_eq_true rfl)) rfl rfl (kX7_removeStreet hl9 n v1 S hc) lmL_46 rfl (rest := [.int 0, .ref (qa g 126)]) rfl (Nat.le_of_ble_eq_true rfl) dL_removeStreet_4 ⟨rfl, rfl, Nat.le_of_ble_eq_true rfl, Nat.le_of_ble_eq_true rfl, Nat.le_of_ble_eq_true rfl, Nat.le_of_ble_eq_true rfl⟩ (fun k E hk hE => ?_) (fun r1 hr1 => ?_)
  · have h := h2 k hk
    rcases q_ite h with ⟨e0, h⟩ | ⟨e0, h⟩
    · subst e0
      cases hE
      refine q_catch C [] ⟨0, 9, 12, 28⟩ [] htab (fun z hz => nomatch hz) (by decide) (by decide) lxL_28 (by decide +kernel) (fun q9 => ?_)
      refine q_astore_n C (lv' := [(3, .ref q9), (0, .ref (qa g 0)), (1, .int v1), (2, .ref (qa g 126))]) dL_removeStreet_12 rfl (by decide) rfl ?_
      refine q_iconst (v := 1) C dL_removeStreet_13 (by decide) ?_
      obtain ⟨rfl, rfl⟩ := Prod.mk.inj (Option.some.inj h)
      exact q_iret C hr (by decide) (by decide) dL_removeStreet_14
    cases h
  · have h := h1 r1 hr1
    refine q_i2l C dL_removeStreet_7 rfl ?_
    refine s_last C ltp_126 kd_126 (by decide) rfl dL_removeStreet_8 ?_
    refine q_goto (tgt := 15) C dL_removeStreet_9 (by decide) ?_
    refine q_iconst (v := 0) C dL_removeStreet_15 (by decide) ?_
    obtain ⟨rfl, rfl⟩ := Prod.mk.inj (Option.some.inj h)
    exact q_iret C hr (by decide) (by decide) dL_removeStreet_16
def FL_setLength (n : Nat) (v1 : Int32) (v2 : Int32) (S : qSt) : Option (Int32 × qSt) := obx (F7_setLength n v1 v2 S) (fun r1 S1 => some (0, qup S1 126 (0 : Int32).toNatClampNeg r1)) (fun k S1 => if k = 2 then some (1, S1) else if k = 0 then some (2, S1) else none)
abbrev rmL_setLength : Room := { frames := 8, cells := 1, slots := 6, locals := 320 }
set_option maxRecDepth 100000 in
set_option maxHeartbeats 4000000 in
theorem kL_setLength {l : Launch} {g : qG} (hl9 : l.stackTraces = false) (n : Nat) (v1 : Int32) (v2 : Int32) (S : qSt) {r : Int32} {S2 : qSt} (h : FL_setLength n v1 v2 S = some (r, S2)) : Met l yL_setLength [.codeWith yL_setLength cL_setLength 5 (some .int) [(0, 10, 13, 28), (0, 10, 17, 13)]] rmL_setLength (qPc g NL qT (qmem g S) [.ref (qa g 0), .int v1, .int v2, .ref (qa g 126)]) (qQi g NL qT (qmem g S2) r) 1 6 (qA g) := by
  refine q_wmet (by decide) (Nat.le_of_ble_eq_true rfl) (fun p e s m args below meth c C hr htab => ?_)
  have C : qC g cL_setLength RL 5 p s m meth c := C
  show qR g NL qT 5 p l e rmL_setLength s m args below meth c 0 0 (MQ below (qQi g NL qT (qmem g S2) r) args s 1 6 (qA g)) (qmem g S) 0 [(0, .ref (qa g 0)), (1, .int v1), (2, .int v2), (3, .ref (qa g 126))] []
  unfold FL_setLength at h
  refine q_aload_n C 3 dL_setLength_0 rfl rfl ?_
  refine q_iconst (v := 0) C dL_setLength_1 (by decide) ?_
  refine q_aload_n C 0 dL_setLength_2 rfl rfl ?_
  refine q_iload_n C 1 dL_setLength_3 rfl rfl ?_
  refine q_iload_n C 2 dL_setLength_4 rfl rfl ?_
  obtain ⟨o1, S1, hc, h1, h2⟩ := obx_e h
  refine q_xcallC C ltp_0 (qmem_o kd_0 (Nat.le_of_ble_eq_true rfl)) rfl rfl (kX7_setLength hl9 n v1 v2 S hc) lmL_49 rfl (rest := [.int 0, .ref (qa g 126)]) rfl (Nat.le_of_ble_eq_true rfl) dL_setLength_5 ⟨rfl, rfl, Nat.le_of_ble_eq_true rfl, Nat.le_of_ble_eq_true rfl, Nat.le_of_ble_eq_true rfl, Nat.le_of_ble_eq_true rfl⟩ (fun k E hk hE => ?_) (fun r1 hr1 => ?_)
  · have h := h2 k hk
    rcases q_ite h with ⟨e0, h⟩ | ⟨e0, h⟩
    · subst e0
      cases hE
      refine q_catch C [] ⟨0, 10, 13, 28⟩ [⟨0, 10, 17, 13⟩] htab (fun z hz => nomatch hz) (by decide) (by decide) lxL_28 (by decide +kernel) (fun q9 => ?_)
      refine q_astore C (lv' := [(4, .ref q9), (0, .ref (qa g 0)), (1, .int v1), (2, .int v2), (3, .ref (qa g 126))]) dL_setLength_13 (by decide) rfl ?_
      refine q_iconst (v := 1) C dL_setLength_15 (by decide) ?_
      obtain ⟨rfl, rfl⟩ := Prod.mk.inj (Option.some.inj h)
      exact q_iret C hr (by decide) (by decide) dL_setLength_16
    rcases q_ite h with ⟨e1, h⟩ | ⟨e1, h⟩
    · subst e1
      cases hE
      refine q_catch C [⟨0, 10, 13, 28⟩] ⟨0, 10, 17, 13⟩ [] htab (fun z hz => by rw [List.mem_singleton.mp hz]; exact ⟨by decide, _, lxL_28, by decide +kernel⟩) (by decide) (by decide) lxL_13 (by decide +kernel) (fun q9 => ?_)
      refine q_astore C (lv' := [(4, .ref q9), (0, .ref (qa g 0)), (1, .int v1), (2, .int v2), (3, .ref (qa g 126))]) dL_setLength_17 (by decide) rfl ?_
      refine q_iconst (v := 2) C dL_setLength_19 (by decide) ?_
      obtain ⟨rfl, rfl⟩ := Prod.mk.inj (Option.some.inj h)
      exact q_iret C hr (by decide) (by decide) dL_setLength_20
    cases h
  · have h := h1 r1 hr1
    refine q_i2l C dL_setLength_8 rfl ?_
    refine s_last C ltp_126 kd_126 (by decide) rfl dL_setLength_9 ?_
    refine q_goto (tgt := 21) C dL_setLength_10 (by decide) ?_
    refine q_iconst (v := 0) C dL_setLength_21 (by decide) ?_
    obtain ⟨rfl, rfl⟩ := Prod.mk.inj (Option.some.inj h)
    exact q_iret C hr (by decide) (by decide) dL_setLength_22
def FL_close (n : Nat) (v1 : Int32) (v2 : Int32) (S : qSt) : Option (Int32 × qSt) := obx (F7_close n v1 v2 S) (fun r1 S1 => some (0, qup S1 126 (0 : Int32).toNatClampNeg r1)) (fun k S1 => if k = 2 then some (1, S1) else none)
abbrev rmL_close : Room := { frames := 8, cells := 1, slots := 6, locals := 320 }
set_option maxRecDepth 100000 in
set_option maxHeartbeats 4000000 in
theorem kL_close {l : Launch} {g : qG} (hl9 : l.stackTraces = false) (n : Nat) (v1 : Int32) (v2 : Int32) (S : qSt) {r : Int32} {S2 : qSt} (h : FL_close n v1 v2 S = some (r, S2)) : Met l yL_close [.codeWith yL_close cL_close 5 (some .int) [(0, 10, 13, 28)]] rmL_close (qPc g NL qT (qmem g S) [.ref (qa g 0), .int v1, .int v2, .ref (qa g 126)]) (qQi g NL qT (qmem g S2) r) 1 6 (qA g) := by
  refine q_wmet (by decide) (Nat.le_of_ble_eq_true rfl) (fun p e s m args below meth c C hr htab => ?_)
  have C : qC g cL_close RL 5 p s m meth c := C
  show qR g NL qT 5 p l e rmL_close s m args below meth c 0 0 (MQ below (qQi g NL qT (qmem g S2) r) args s 1 6 (qA g)) (qmem g S) 0 [(0, .ref (qa g 0)), (1, .int v1), (2, .int v2), (3, .ref (qa g 126))] []
  unfold FL_close at h
  refine q_aload_n C 3 dL_close_0 rfl rfl ?_
  refine q_iconst (v := 0) C dL_close_1 (by decide) ?_
  refine q_aload_n C 0 dL_close_2 rfl rfl ?_
  refine q_iload_n C 1 dL_close_3 rfl rfl ?_
  refine q_iload_n C 2 dL_close_4 rfl rfl ?_
  obtain ⟨o1, S1, hc, h1, h2⟩ := obx_e h
  refine q_xcallC C ltp_0 (qmem_o kd_0 (Nat.le_of_ble_eq_true rfl)) rfl rfl (kX7_close hl9 n v1 v2 S hc) lmL_52 rfl (rest := [.int 0, .ref (qa g 126)]) rfl (Nat.le_of_ble_eq_true rfl) dL_close_5 ⟨rfl, rfl, Nat.le_of_ble_eq_true rfl, Nat.le_of_ble_eq_true rfl, Nat.le_of_ble_eq_true rfl, Nat.le_of_ble_eq_true rfl⟩ (fun k E hk hE => ?_) (fun r1 hr1 => ?_)
  · have h := h2 k hk
    rcases q_ite h with ⟨e0, h⟩ | ⟨e0, h⟩
    · subst e0
      cases hE
      refine q_catch C [] ⟨0, 10, 13, 28⟩ [] htab (fun z hz => nomatch hz) (by decide) (by decide) lxL_28 (by decide +kernel) (fun q9 => ?_)
      refine q_astore C (lv' := [(4, .ref q9), (0, .ref (qa g 0)), (1, .int v1), (2, .int v2), (3, .ref (qa g 126))]) dL_close_13 (by decide) rfl ?_
      refine q_iconst (v := 1) C dL_close_15 (by decide) ?_
      obtain ⟨rfl, rfl⟩ := Prod.mk.inj (Option.some.inj h)
      exact q_iret C hr (by decide) (by decide) dL_close_16
    cases h
  · have h := h1 r1 hr1
    refine q_i2l C dL_close_8 rfl ?_
    refine s_last C ltp_126 kd_126 (by decide) rfl dL_close_9 ?_
    refine q_goto (tgt := 17) C dL_close_10 (by decide) ?_
    refine q_iconst (v := 0) C dL_close_17 (by decide) ?_
    obtain ⟨rfl, rfl⟩ := Prod.mk.inj (Option.some.inj h)
    exact q_iret C hr (by decide) (by decide) dL_close_18
def FL_setEnds (n : Nat) (v1 : Int32) (v2 : Int32) (S : qSt) : Option (Int32 × qSt) := obx (F7_setEnds n v1 v2 S) (fun r1 S1 => some (0, qup S1 126 (0 : Int32).toNatClampNeg r1)) (fun k S1 => if k = 2 then some (1, S1) else if k = 0 then some (2, S1) else none)
abbrev rmL_setEnds : Room := { frames := 8, cells := 1, slots := 6, locals := 320 }
set_option maxRecDepth 100000 in
set_option maxHeartbeats 4000000 in
theorem kL_setEnds {l : Launch} {g : qG} (hl9 : l.stackTraces = false) (n : Nat) (v1 : Int32) (v2 : Int32) (S : qSt) {r : Int32} {S2 : qSt} (h : FL_setEnds n v1 v2 S = some (r, S2)) : Met l yL_setEnds [.codeWith yL_setEnds cL_setEnds 5 (some .int) [(0, 10, 13, 28), (0, 10, 17, 13)]] rmL_setEnds (qPc g NL qT (qmem g S) [.ref (qa g 0), .int v1, .int v2, .ref (qa g 126)]) (qQi g NL qT (qmem g S2) r) 1 6 (qA g) := by
  refine q_wmet (by decide) (Nat.le_of_ble_eq_true rfl) (fun p e s m args below meth c C hr htab => ?_)
  have C : qC g cL_setEnds RL 5 p s m meth c := C
  show qR g NL qT 5 p l e rmL_setEnds s m args below meth c 0 0 (MQ below (qQi g NL qT (qmem g S2) r) args s 1 6 (qA g)) (qmem g S) 0 [(0, .ref (qa g 0)), (1, .int v1), (2, .int v2), (3, .ref (qa g 126))] []
  unfold FL_setEnds at h
  refine q_aload_n C 3 dL_setEnds_0 rfl rfl ?_
  refine q_iconst (v := 0) C dL_setEnds_1 (by decide) ?_
  refine q_aload_n C 0 dL_setEnds_2 rfl rfl ?_
  refine q_iload_n C 1 dL_setEnds_3 rfl rfl ?_
  refine q_iload_n C 2 dL_setEnds_4 rfl rfl ?_
  obtain ⟨o1, S1, hc, h1, h2⟩ := obx_e h
  refine q_xcallC C ltp_0 (qmem_o kd_0 (Nat.le_of_ble_eq_true rfl)) rfl rfl (kX7_setEnds hl9 n v1 v2 S hc) lmL_56 rfl (rest := [.int 0, .ref (qa g 126)]) rfl (Nat.le_of_ble_eq_true rfl) dL_setEnds_5 ⟨rfl, rfl, Nat.le_of_ble_eq_true rfl, Nat.le_of_ble_eq_true rfl, Nat.le_of_ble_eq_true rfl, Nat.le_of_ble_eq_true rfl⟩ (fun k E hk hE => ?_) (fun r1 hr1 => ?_)
  · have h := h2 k hk
    rcases q_ite h with ⟨e0, h⟩ | ⟨e0, h⟩
    · subst e0
      cases hE
      refine q_catch C [] ⟨0, 10, 13, 28⟩ [⟨0, 10, 17, 13⟩] htab (fun z hz => nomatch hz) (by decide) (by decide) lxL_28 (by decide +kernel) (fun q9 => ?_)
      refine q_astore C (lv' := [(4, .ref q9), (0, .ref (qa g 0)), (1, .int v1), (2, .int v2), (3, .ref (qa g 126))]) dL_setEnds_13 (by decide) rfl ?_
      refine q_iconst (v := 1) C dL_setEnds_15 (by decide) ?_
      obtain ⟨rfl, rfl⟩ := Prod.mk.inj (Option.some.inj h)
      exact q_iret C hr (by decide) (by decide) dL_setEnds_16
    rcases q_ite h with ⟨e1, h⟩ | ⟨e1, h⟩
    · subst e1
      cases hE
      refine q_catch C [⟨0, 10, 13, 28⟩] ⟨0, 10, 17, 13⟩ [] htab (fun z hz => by rw [List.mem_singleton.mp hz]; exact ⟨by decide, _, lxL_28, by decide +kernel⟩) (by decide) (by decide) lxL_13 (by decide +kernel) (fun q9 => ?_)
      refine q_astore C (lv' := [(4, .ref q9), (0, .ref (qa g 0)), (1, .int v1), (2, .int v2), (3, .ref (qa g 126))]) dL_setEnds_17 (by decide) rfl ?_
      refine q_iconst (v := 2) C dL_setEnds_19 (by decide) ?_
      obtain ⟨rfl, rfl⟩ := Prod.mk.inj (Option.some.inj h)
      exact q_iret C hr (by decide) (by decide) dL_setEnds_20
    cases h
  · have h := h1 r1 hr1
    refine q_i2l C dL_setEnds_8 rfl ?_
    refine s_last C ltp_126 kd_126 (by decide) rfl dL_setEnds_9 ?_
    refine q_goto (tgt := 21) C dL_setEnds_10 (by decide) ?_
    refine q_iconst (v := 0) C dL_setEnds_21 (by decide) ?_
    obtain ⟨rfl, rfl⟩ := Prod.mk.inj (Option.some.inj h)
    exact q_iret C hr (by decide) (by decide) dL_setEnds_22
def FL_runPlan (n : Nat)  (S : qSt) : Option (Int32 × qSt) := obx (F7_runPlan n S) (fun r1 S1 => some (0, qup S1 126 (0 : Int32).toNatClampNeg r1)) (fun k S1 => if k = 1 then some (1, S1) else none)
abbrev rmL_runPlan : Room := { frames := 8, cells := 1, slots := 6, locals := 320 }
set_option maxRecDepth 100000 in
set_option maxHeartbeats 4000000 in
theorem kL_runPlan {l : Launch} {g : qG} (hl9 : l.stackTraces = false) (n : Nat)  (S : qSt) {r : Int32} {S2 : qSt} (h : FL_runPlan n S = some (r, S2)) : Met l yL_runPlan [.codeWith yL_runPlan cL_runPlan 3 (some .int) [(0, 8, 11, 15)]] rmL_runPlan (qPc g NL qT (qmem g S) [.ref (qa g 0), .ref (qa g 126)]) (qQi g NL qT (qmem g S2) r) 1 6 (qA g) := by
  refine q_wmet (by decide) (Nat.le_of_ble_eq_true rfl) (fun p e s m args below meth c C hr htab => ?_)
  have C : qC g cL_runPlan RL 3 p s m meth c := C
  show qR g NL qT 3 p l e rmL_runPlan s m args below meth c 0 0 (MQ below (qQi g NL qT (qmem g S2) r) args s 1 6 (qA g)) (qmem g S) 0 [(0, .ref (qa g 0)), (1, .ref (qa g 126))] []
  unfold FL_runPlan at h
  refine q_aload_n C 1 dL_runPlan_0 rfl rfl ?_
  refine q_iconst (v := 0) C dL_runPlan_1 (by decide) ?_
  refine q_aload_n C 0 dL_runPlan_2 rfl rfl ?_
  obtain ⟨o1, S1, hc, h1, h2⟩ := obx_e h
  refine q_xcallC C ltp_0 (qmem_o kd_0 (Nat.le_of_ble_eq_true rfl)) rfl rfl (kX7_runPlan hl9 n S hc) lmL_59 rfl (rest := [.int 0, .ref (qa g 126)]) rfl (Nat.le_of_ble_eq_true rfl) dL_runPlan_3 ⟨rfl, rfl, Nat.le_of_ble_eq_true rfl, Nat.le_of_ble_eq_true rfl, Nat.le_of_ble_eq_true rfl, Nat.le_of_ble_eq_true rfl⟩ (fun k E hk hE => ?_) (fun r1 hr1 => ?_)
  · have h := h2 k hk
    rcases q_ite h with ⟨e0, h⟩ | ⟨e0, h⟩
    · subst e0
      cases hE
      refine q_catch C [] ⟨0, 8, 11, 15⟩ [] htab (fun z hz => nomatch hz) (by decide) (by decide) lxL_15 (by decide +kernel) (fun q9 => ?_)
      refine q_astore_n C (lv' := [(2, .ref q9), (0, .ref (qa g 0)), (1, .ref (qa g 126))]) dL_runPlan_11 rfl (by decide) rfl ?_
      refine q_iconst (v := 1) C dL_runPlan_12 (by decide) ?_
      obtain ⟨rfl, rfl⟩ := Prod.mk.inj (Option.some.inj h)
      exact q_iret C hr (by decide) (by decide) dL_runPlan_13
    cases h
  · have h := h1 r1 hr1
    refine q_i2l C dL_runPlan_6 rfl ?_
    refine s_last C ltp_126 kd_126 (by decide) rfl dL_runPlan_7 ?_
    refine q_goto (tgt := 14) C dL_runPlan_8 (by decide) ?_
    refine q_iconst (v := 0) C dL_runPlan_14 (by decide) ?_
    obtain ⟨rfl, rfl⟩ := Prod.mk.inj (Option.some.inj h)
    exact q_iret C hr (by decide) (by decide) dL_runPlan_15
def FL_undo (n : Nat)  (S : qSt) : Option (Int32 × qSt) := obx (F7_undo n S) (fun r1 S1 => some (0, qup S1 126 (0 : Int32).toNatClampNeg r1)) (fun k S1 => if k = 1 then some (1, S1) else none)
abbrev rmL_undo : Room := { frames := 7, cells := 1, slots := 6, locals := 280 }
set_option maxRecDepth 100000 in
set_option maxHeartbeats 4000000 in
theorem kL_undo {l : Launch} {g : qG} (hl9 : l.stackTraces = false) (n : Nat)  (S : qSt) {r : Int32} {S2 : qSt} (h : FL_undo n S = some (r, S2)) : Met l yL_undo [.codeWith yL_undo cL_undo 3 (some .int) [(0, 8, 11, 15)]] rmL_undo (qPc g NL qT (qmem g S) [.ref (qa g 0), .ref (qa g 126)]) (qQi g NL qT (qmem g S2) r) 1 6 (qA g) := by
  refine q_wmet (by decide) (Nat.le_of_ble_eq_true rfl) (fun p e s m args below meth c C hr htab => ?_)
  have C : qC g cL_undo RL 3 p s m meth c := C
  show qR g NL qT 3 p l e rmL_undo s m args below meth c 0 0 (MQ below (qQi g NL qT (qmem g S2) r) args s 1 6 (qA g)) (qmem g S) 0 [(0, .ref (qa g 0)), (1, .ref (qa g 126))] []
  unfold FL_undo at h
  refine q_aload_n C 1 dL_undo_0 rfl rfl ?_
  refine q_iconst (v := 0) C dL_undo_1 (by decide) ?_
  refine q_aload_n C 0 dL_undo_2 rfl rfl ?_
  obtain ⟨o1, S1, hc, h1, h2⟩ := obx_e h
  refine q_xcallC C ltp_0 (qmem_o kd_0 (Nat.le_of_ble_eq_true rfl)) rfl rfl (kX7_undo hl9 n S hc) lmL_62 rfl (rest := [.int 0, .ref (qa g 126)]) rfl (Nat.le_of_ble_eq_true rfl) dL_undo_3 ⟨rfl, rfl, Nat.le_of_ble_eq_true rfl, Nat.le_of_ble_eq_true rfl, Nat.le_of_ble_eq_true rfl, Nat.le_of_ble_eq_true rfl⟩ (fun k E hk hE => ?_) (fun r1 hr1 => ?_)
  · have h := h2 k hk
    rcases q_ite h with ⟨e0, h⟩ | ⟨e0, h⟩
    · subst e0
      cases hE
      refine q_catch C [] ⟨0, 8, 11, 15⟩ [] htab (fun z hz => nomatch hz) (by decide) (by decide) lxL_15 (by decide +kernel) (fun q9 => ?_)
      refine q_astore_n C (lv' := [(2, .ref q9), (0, .ref (qa g 0)), (1, .ref (qa g 126))]) dL_undo_11 rfl (by decide) rfl ?_
      refine q_iconst (v := 1) C dL_undo_12 (by decide) ?_
      obtain ⟨rfl, rfl⟩ := Prod.mk.inj (Option.some.inj h)
      exact q_iret C hr (by decide) (by decide) dL_undo_13
    cases h
  · have h := h1 r1 hr1
    refine q_i2l C dL_undo_6 rfl ?_
    refine s_last C ltp_126 kd_126 (by decide) rfl dL_undo_7 ?_
    refine q_goto (tgt := 14) C dL_undo_8 (by decide) ?_
    refine q_iconst (v := 0) C dL_undo_14 (by decide) ?_
    obtain ⟨rfl, rfl⟩ := Prod.mk.inj (Option.some.inj h)
    exact q_iret C hr (by decide) (by decide) dL_undo_15
def FL_without (n : Nat) (v1 : Int32) (S : qSt) : Option (Int32 × qSt) := obx (F7_without n v1 S) (fun r1 S1 => some (0, qup S1 126 (0 : Int32).toNatClampNeg r1)) (fun k S1 => if k = 2 then some (1, S1) else none)
abbrev rmL_without : Room := { frames := 8, cells := 1, slots := 6, locals := 320 }
set_option maxRecDepth 100000 in
set_option maxHeartbeats 4000000 in
theorem kL_without {l : Launch} {g : qG} (hl9 : l.stackTraces = false) (n : Nat) (v1 : Int32) (S : qSt) {r : Int32} {S2 : qSt} (h : FL_without n v1 S = some (r, S2)) : Met l yL_without [.codeWith yL_without cL_without 4 (some .int) [(0, 9, 12, 28)]] rmL_without (qPc g NL qT (qmem g S) [.ref (qa g 0), .int v1, .ref (qa g 126)]) (qQi g NL qT (qmem g S2) r) 1 6 (qA g) := by
  refine q_wmet (by decide) (Nat.le_of_ble_eq_true rfl) (fun p e s m args below meth c C hr htab => ?_)
  have C : qC g cL_without RL 4 p s m meth c := C
  show qR g NL qT 4 p l e rmL_without s m args below meth c 0 0 (MQ below (qQi g NL qT (qmem g S2) r) args s 1 6 (qA g)) (qmem g S) 0 [(0, .ref (qa g 0)), (1, .int v1), (2, .ref (qa g 126))] []
  unfold FL_without at h
  refine q_aload_n C 2 dL_without_0 rfl rfl ?_
  refine q_iconst (v := 0) C dL_without_1 (by decide) ?_
  refine q_aload_n C 0 dL_without_2 rfl rfl ?_
  refine q_iload_n C 1 dL_without_3 rfl rfl ?_
  obtain ⟨o1, S1, hc, h1, h2⟩ := obx_e h
  refine q_xcallC C ltp_0 (qmem_o kd_0 (Nat.le_of_ble_eq_true rfl)) rfl rfl (kX7_without hl9 n v1 S hc) lmL_65 rfl (rest := [.int 0, .ref (qa g 126)]) rfl (Nat.le_of_ble_eq_true rfl) dL_without_4 ⟨rfl, rfl, Nat.le_of_ble_eq_true rfl, Nat.le_of_ble_eq_true rfl, Nat.le_of_ble_eq_true rfl, Nat.le_of_ble_eq_true rfl⟩ (fun k E hk hE => ?_) (fun r1 hr1 => ?_)
  · have h := h2 k hk
    rcases q_ite h with ⟨e0, h⟩ | ⟨e0, h⟩
    · subst e0
      cases hE
      refine q_catch C [] ⟨0, 9, 12, 28⟩ [] htab (fun z hz => nomatch hz) (by decide) (by decide) lxL_28 (by decide +kernel) (fun q9 => ?_)
      refine q_astore_n C (lv' := [(3, .ref q9), (0, .ref (qa g 0)), (1, .int v1), (2, .ref (qa g 126))]) dL_without_12 rfl (by decide) rfl ?_
      refine q_iconst (v := 1) C dL_without_13 (by decide) ?_
      obtain ⟨rfl, rfl⟩ := Prod.mk.inj (Option.some.inj h)
      exact q_iret C hr (by decide) (by decide) dL_without_14
    cases h
  · have h := h1 r1 hr1
    refine q_i2l C dL_without_7 rfl ?_
    refine s_last C ltp_126 kd_126 (by decide) rfl dL_without_8 ?_
    refine q_goto (tgt := 15) C dL_without_9 (by decide) ?_
    refine q_iconst (v := 0) C dL_without_15 (by decide) ?_
    obtain ⟨rfl, rfl⟩ := Prod.mk.inj (Option.some.inj h)
    exact q_iret C hr (by decide) (by decide) dL_without_16
def FL_withoutAt (n : Nat) (v1 : Int32) (v2 : Int32) (S : qSt) : Option (Int32 × qSt) := obx (F7_withoutAt n v1 v2 S) (fun r1 S1 => some (0, qup S1 126 (0 : Int32).toNatClampNeg r1)) (fun k S1 => if k = 2 then some (1, S1) else if k = 0 then some (2, S1) else none)
abbrev rmL_withoutAt : Room := { frames := 8, cells := 2, slots := 12, locals := 320 }
set_option maxRecDepth 100000 in
set_option maxHeartbeats 4000000 in
theorem kL_withoutAt {l : Launch} {g : qG} (hl9 : l.stackTraces = false) (n : Nat) (v1 : Int32) (v2 : Int32) (S : qSt) {r : Int32} {S2 : qSt} (h : FL_withoutAt n v1 v2 S = some (r, S2)) : Met l yL_withoutAt [.codeWith yL_withoutAt cL_withoutAt 5 (some .int) [(0, 10, 13, 28), (0, 10, 17, 13)]] rmL_withoutAt (qPc g NL qT (qmem g S) [.ref (qa g 0), .int v1, .int v2, .ref (qa g 126)]) (qQi g NL qT (qmem g S2) r) 2 12 (qA g) := by
  refine q_wmet (by decide) (Nat.le_of_ble_eq_true rfl) (fun p e s m args below meth c C hr htab => ?_)
  have C : qC g cL_withoutAt RL 5 p s m meth c := C
  show qR g NL qT 5 p l e rmL_withoutAt s m args below meth c 0 0 (MQ below (qQi g NL qT (qmem g S2) r) args s 2 12 (qA g)) (qmem g S) 0 [(0, .ref (qa g 0)), (1, .int v1), (2, .int v2), (3, .ref (qa g 126))] []
  unfold FL_withoutAt at h
  refine q_aload_n C 3 dL_withoutAt_0 rfl rfl ?_
  refine q_iconst (v := 0) C dL_withoutAt_1 (by decide) ?_
  refine q_aload_n C 0 dL_withoutAt_2 rfl rfl ?_
  refine q_iload_n C 1 dL_withoutAt_3 rfl rfl ?_
  refine q_iload_n C 2 dL_withoutAt_4 rfl rfl ?_
  obtain ⟨o1, S1, hc, h1, h2⟩ := obx_e h
  refine q_xcallC C ltp_0 (qmem_o kd_0 (Nat.le_of_ble_eq_true rfl)) rfl rfl (kX7_withoutAt hl9 n v1 v2 S hc) lmL_68 rfl (rest := [.int 0, .ref (qa g 126)]) rfl (Nat.le_of_ble_eq_true rfl) dL_withoutAt_5 ⟨rfl, rfl, Nat.le_of_ble_eq_true rfl, Nat.le_of_ble_eq_true rfl, Nat.le_of_ble_eq_true rfl, Nat.le_of_ble_eq_true rfl⟩ (fun k E hk hE => ?_) (fun r1 hr1 => ?_)
  · have h := h2 k hk
    rcases q_ite h with ⟨e0, h⟩ | ⟨e0, h⟩
    · subst e0
      cases hE
      refine q_catch C [] ⟨0, 10, 13, 28⟩ [⟨0, 10, 17, 13⟩] htab (fun z hz => nomatch hz) (by decide) (by decide) lxL_28 (by decide +kernel) (fun q9 => ?_)
      refine q_astore C (lv' := [(4, .ref q9), (0, .ref (qa g 0)), (1, .int v1), (2, .int v2), (3, .ref (qa g 126))]) dL_withoutAt_13 (by decide) rfl ?_
      refine q_iconst (v := 1) C dL_withoutAt_15 (by decide) ?_
      obtain ⟨rfl, rfl⟩ := Prod.mk.inj (Option.some.inj h)
      exact q_iret C hr (by decide) (by decide) dL_withoutAt_16
    rcases q_ite h with ⟨e1, h⟩ | ⟨e1, h⟩
    · subst e1
      cases hE
      refine q_catch C [⟨0, 10, 13, 28⟩] ⟨0, 10, 17, 13⟩ [] htab (fun z hz => by rw [List.mem_singleton.mp hz]; exact ⟨by decide, _, lxL_28, by decide +kernel⟩) (by decide) (by decide) lxL_13 (by decide +kernel) (fun q9 => ?_)
      refine q_astore C (lv' := [(4, .ref q9), (0, .ref (qa g 0)), (1, .int v1), (2, .int v2), (3, .ref (qa g 126))]) dL_withoutAt_17 (by decide) rfl ?_
      refine q_iconst (v := 2) C dL_withoutAt_19 (by decide) ?_
      obtain ⟨rfl, rfl⟩ := Prod.mk.inj (Option.some.inj h)
      exact q_iret C hr (by decide) (by decide) dL_withoutAt_20
    cases h
  · have h := h1 r1 hr1
    refine q_i2l C dL_withoutAt_8 rfl ?_
    refine s_last C ltp_126 kd_126 (by decide) rfl dL_withoutAt_9 ?_
    refine q_goto (tgt := 21) C dL_withoutAt_10 (by decide) ?_
    refine q_iconst (v := 0) C dL_withoutAt_21 (by decide) ?_
    obtain ⟨rfl, rfl⟩ := Prod.mk.inj (Option.some.inj h)
    exact q_iret C hr (by decide) (by decide) dL_withoutAt_22
def FL_upTo (n : Nat) (v1 : Int32) (S : qSt) : Option (Int32 × qSt) := obx (F7_upTo n v1 S) (fun r1 S1 => some (0, qup S1 126 (0 : Int32).toNatClampNeg r1)) (fun k S1 => if k = 2 then some (1, S1) else none)
abbrev rmL_upTo : Room := { frames := 8, cells := 1, slots := 6, locals := 320 }
set_option maxRecDepth 100000 in
set_option maxHeartbeats 4000000 in
theorem kL_upTo {l : Launch} {g : qG} (hl9 : l.stackTraces = false) (n : Nat) (v1 : Int32) (S : qSt) {r : Int32} {S2 : qSt} (h : FL_upTo n v1 S = some (r, S2)) : Met l yL_upTo [.codeWith yL_upTo cL_upTo 4 (some .int) [(0, 9, 12, 28)]] rmL_upTo (qPc g NL qT (qmem g S) [.ref (qa g 0), .int v1, .ref (qa g 126)]) (qQi g NL qT (qmem g S2) r) 1 6 (qA g) := by
  refine q_wmet (by decide) (Nat.le_of_ble_eq_true rfl) (fun p e s m args below meth c C hr htab => ?_)
  have C : qC g cL_upTo RL 4 p s m meth c := C
  show qR g NL qT 4 p l e rmL_upTo s m args below meth c 0 0 (MQ below (qQi g NL qT (qmem g S2) r) args s 1 6 (qA g)) (qmem g S) 0 [(0, .ref (qa g 0)), (1, .int v1), (2, .ref (qa g 126))] []
  unfold FL_upTo at h
  refine q_aload_n C 2 dL_upTo_0 rfl rfl ?_
  refine q_iconst (v := 0) C dL_upTo_1 (by decide) ?_
  refine q_aload_n C 0 dL_upTo_2 rfl rfl ?_
  refine q_iload_n C 1 dL_upTo_3 rfl rfl ?_
  obtain ⟨o1, S1, hc, h1, h2⟩ := obx_e h
  refine q_xcallC C ltp_0 (qmem_o kd_0 (Nat.le_of_ble_eq_true rfl)) rfl rfl (kX7_upTo hl9 n v1 S hc) lmL_71 rfl (rest := [.int 0, .ref (qa g 126)]) rfl (Nat.le_of_ble_eq_true rfl) dL_upTo_4 ⟨rfl, rfl, Nat.le_of_ble_eq_true rfl, Nat.le_of_ble_eq_true rfl, Nat.le_of_ble_eq_true rfl, Nat.le_of_ble_eq_true rfl⟩ (fun k E hk hE => ?_) (fun r1 hr1 => ?_)
  · have h := h2 k hk
    rcases q_ite h with ⟨e0, h⟩ | ⟨e0, h⟩
    · subst e0
      cases hE
      refine q_catch C [] ⟨0, 9, 12, 28⟩ [] htab (fun z hz => nomatch hz) (by decide) (by decide) lxL_28 (by decide +kernel) (fun q9 => ?_)
      refine q_astore_n C (lv' := [(3, .ref q9), (0, .ref (qa g 0)), (1, .int v1), (2, .ref (qa g 126))]) dL_upTo_12 rfl (by decide) rfl ?_
      refine q_iconst (v := 1) C dL_upTo_13 (by decide) ?_
      obtain ⟨rfl, rfl⟩ := Prod.mk.inj (Option.some.inj h)
      exact q_iret C hr (by decide) (by decide) dL_upTo_14
    cases h
  · have h := h1 r1 hr1
    refine q_i2l C dL_upTo_7 rfl ?_
    refine s_last C ltp_126 kd_126 (by decide) rfl dL_upTo_8 ?_
    refine q_goto (tgt := 15) C dL_upTo_9 (by decide) ?_
    refine q_iconst (v := 0) C dL_upTo_15 (by decide) ?_
    obtain ⟨rfl, rfl⟩ := Prod.mk.inj (Option.some.inj h)
    exact q_iret C hr (by decide) (by decide) dL_upTo_16
def FL_saves (n : Nat) (v1 : Int32) (v2 : Int32) (v3 : Int32) (S : qSt) : Option (Int32 × qSt) := obx (F7_saves n v1 v2 v3 S) (fun r1 S1 => some (0, qup S1 126 (0 : Int32).toNatClampNeg r1)) (fun k S1 => if k = 2 then some (1, S1) else if k = 0 then some (2, S1) else none)
abbrev rmL_saves : Room := { frames := 8, cells := 2, slots := 12, locals := 320 }
set_option maxRecDepth 100000 in
set_option maxHeartbeats 4000000 in
theorem kL_saves {l : Launch} {g : qG} (hl9 : l.stackTraces = false) (n : Nat) (v1 : Int32) (v2 : Int32) (v3 : Int32) (S : qSt) {r : Int32} {S2 : qSt} (h : FL_saves n v1 v2 v3 S = some (r, S2)) : Met l yL_saves [.codeWith yL_saves cL_saves 6 (some .int) [(0, 12, 15, 28), (0, 12, 19, 13)]] rmL_saves (qPc g NL qT (qmem g S) [.ref (qa g 0), .int v1, .int v2, .int v3, .ref (qa g 126)]) (qQi g NL qT (qmem g S2) r) 2 12 (qA g) := by
  refine q_wmet (by decide) (Nat.le_of_ble_eq_true rfl) (fun p e s m args below meth c C hr htab => ?_)
  have C : qC g cL_saves RL 6 p s m meth c := C
  show qR g NL qT 6 p l e rmL_saves s m args below meth c 0 0 (MQ below (qQi g NL qT (qmem g S2) r) args s 2 12 (qA g)) (qmem g S) 0 [(0, .ref (qa g 0)), (1, .int v1), (2, .int v2), (3, .int v3), (4, .ref (qa g 126))] []
  unfold FL_saves at h
  refine q_aload C 4 dL_saves_0 rfl ?_
  refine q_iconst (v := 0) C dL_saves_2 (by decide) ?_
  refine q_aload_n C 0 dL_saves_3 rfl rfl ?_
  refine q_iload_n C 1 dL_saves_4 rfl rfl ?_
  refine q_iload_n C 2 dL_saves_5 rfl rfl ?_
  refine q_iload_n C 3 dL_saves_6 rfl rfl ?_
  obtain ⟨o1, S1, hc, h1, h2⟩ := obx_e h
  refine q_xcallC C ltp_0 (qmem_o kd_0 (Nat.le_of_ble_eq_true rfl)) rfl rfl (kX7_saves hl9 n v1 v2 v3 S hc) lmL_74 rfl (rest := [.int 0, .ref (qa g 126)]) rfl (Nat.le_of_ble_eq_true rfl) dL_saves_7 ⟨rfl, rfl, Nat.le_of_ble_eq_true rfl, Nat.le_of_ble_eq_true rfl, Nat.le_of_ble_eq_true rfl, Nat.le_of_ble_eq_true rfl⟩ (fun k E hk hE => ?_) (fun r1 hr1 => ?_)
  · have h := h2 k hk
    rcases q_ite h with ⟨e0, h⟩ | ⟨e0, h⟩
    · subst e0
      cases hE
      refine q_catch C [] ⟨0, 12, 15, 28⟩ [⟨0, 12, 19, 13⟩] htab (fun z hz => nomatch hz) (by decide) (by decide) lxL_28 (by decide +kernel) (fun q9 => ?_)
      refine q_astore C (lv' := [(5, .ref q9), (0, .ref (qa g 0)), (1, .int v1), (2, .int v2), (3, .int v3), (4, .ref (qa g 126))]) dL_saves_15 (by decide) rfl ?_
      refine q_iconst (v := 1) C dL_saves_17 (by decide) ?_
      obtain ⟨rfl, rfl⟩ := Prod.mk.inj (Option.some.inj h)
      exact q_iret C hr (by decide) (by decide) dL_saves_18
    rcases q_ite h with ⟨e1, h⟩ | ⟨e1, h⟩
    · subst e1
      cases hE
      refine q_catch C [⟨0, 12, 15, 28⟩] ⟨0, 12, 19, 13⟩ [] htab (fun z hz => by rw [List.mem_singleton.mp hz]; exact ⟨by decide, _, lxL_28, by decide +kernel⟩) (by decide) (by decide) lxL_13 (by decide +kernel) (fun q9 => ?_)
      refine q_astore C (lv' := [(5, .ref q9), (0, .ref (qa g 0)), (1, .int v1), (2, .int v2), (3, .int v3), (4, .ref (qa g 126))]) dL_saves_19 (by decide) rfl ?_
      refine q_iconst (v := 2) C dL_saves_21 (by decide) ?_
      obtain ⟨rfl, rfl⟩ := Prod.mk.inj (Option.some.inj h)
      exact q_iret C hr (by decide) (by decide) dL_saves_22
    cases h
  · have h := h1 r1 hr1
    refine q_i2l C dL_saves_10 rfl ?_
    refine s_last C ltp_126 kd_126 (by decide) rfl dL_saves_11 ?_
    refine q_goto (tgt := 23) C dL_saves_12 (by decide) ?_
    refine q_iconst (v := 0) C dL_saves_23 (by decide) ?_
    obtain ⟨rfl, rfl⟩ := Prod.mk.inj (Option.some.inj h)
    exact q_iret C hr (by decide) (by decide) dL_saves_24
def FL_ways (n : Nat) (v1 : Int32) (S : qSt) : Option (Int32 × qSt) := obx (F7_ways n v1 S) (fun r1 S1 => some (0, qup S1 126 (0 : Int32).toNatClampNeg r1)) (fun k S1 => if k = 0 then some (1, S1) else none)
abbrev rmL_ways : Room := { frames := 15, cells := 1, slots := 6, locals := 600 }
set_option maxRecDepth 100000 in
set_option maxHeartbeats 4000000 in
theorem kL_ways {l : Launch} {g : qG} (hl9 : l.stackTraces = false) (n : Nat) (v1 : Int32) (S : qSt) {r : Int32} {S2 : qSt} (h : FL_ways n v1 S = some (r, S2)) : Met l yL_ways [.codeWith yL_ways cL_ways 4 (some .int) [(0, 9, 12, 13)]] rmL_ways (qPc g NL qT (qmem g S) [.ref (qa g 0), .int v1, .ref (qa g 126)]) (qQi g NL qT (qmem g S2) r) 1 6 (qA g) := by
  refine q_wmet (by decide) (Nat.le_of_ble_eq_true rfl) (fun p e s m args below meth c C hr htab => ?_)
  have C : qC g cL_ways RL 4 p s m meth c := C
  show qR g NL qT 4 p l e rmL_ways s m args below meth c 0 0 (MQ below (qQi g NL qT (qmem g S2) r) args s 1 6 (qA g)) (qmem g S) 0 [(0, .ref (qa g 0)), (1, .int v1), (2, .ref (qa g 126))] []
  unfold FL_ways at h
  refine q_aload_n C 2 dL_ways_0 rfl rfl ?_
  refine q_iconst (v := 0) C dL_ways_1 (by decide) ?_
  refine q_aload_n C 0 dL_ways_2 rfl rfl ?_
  refine q_iload_n C 1 dL_ways_3 rfl rfl ?_
  obtain ⟨o1, S1, hc, h1, h2⟩ := obx_e h
  refine q_xcallC C ltp_0 (qmem_o kd_0 (Nat.le_of_ble_eq_true rfl)) rfl rfl (kX7_ways hl9 n v1 S hc) lmL_77 rfl (rest := [.int 0, .ref (qa g 126)]) rfl (Nat.le_of_ble_eq_true rfl) dL_ways_4 ⟨rfl, rfl, Nat.le_of_ble_eq_true rfl, Nat.le_of_ble_eq_true rfl, Nat.le_of_ble_eq_true rfl, Nat.le_of_ble_eq_true rfl⟩ (fun k E hk hE => ?_) (fun r1 hr1 => ?_)
  · have h := h2 k hk
    rcases q_ite h with ⟨e0, h⟩ | ⟨e0, h⟩
    · subst e0
      cases hE
      refine q_catch C [] ⟨0, 9, 12, 13⟩ [] htab (fun z hz => nomatch hz) (by decide) (by decide) lxL_13 (by decide +kernel) (fun q9 => ?_)
      refine q_astore_n C (lv' := [(3, .ref q9), (0, .ref (qa g 0)), (1, .int v1), (2, .ref (qa g 126))]) dL_ways_12 rfl (by decide) rfl ?_
      refine q_iconst (v := 1) C dL_ways_13 (by decide) ?_
      obtain ⟨rfl, rfl⟩ := Prod.mk.inj (Option.some.inj h)
      exact q_iret C hr (by decide) (by decide) dL_ways_14
    cases h
  · have h := h1 r1 hr1
    refine q_i2l C dL_ways_7 rfl ?_
    refine s_last C ltp_126 kd_126 (by decide) rfl dL_ways_8 ?_
    refine q_goto (tgt := 15) C dL_ways_9 (by decide) ?_
    refine q_iconst (v := 0) C dL_ways_15 (by decide) ?_
    obtain ⟨rfl, rfl⟩ := Prod.mk.inj (Option.some.inj h)
    exact q_iret C hr (by decide) (by decide) dL_ways_16
def FL_runScript (n : Nat) (v1 : Int32) (w2 : Int64) (S : qSt) : Option (Int32 × qSt) := obx (F7_runScript n v1 w2 S) (fun r1 S1 => some (0, qup S1 126 (0 : Int32).toNatClampNeg r1)) (fun k S1 => if k = 0 then some (1, S1) else none)
abbrev rmL_runScript : Room := { frames := 7, cells := 1, slots := 6, locals := 280 }
set_option maxRecDepth 100000 in
set_option maxHeartbeats 4000000 in
theorem kL_runScript {l : Launch} {g : qG} (hl9 : l.stackTraces = false) (n : Nat) (v1 : Int32) (w2 : Int64) (S : qSt) {r : Int32} {S2 : qSt} (h : FL_runScript n v1 w2 S = some (r, S2)) : Met l yL_runScript [.codeWith yL_runScript cL_runScript 6 (some .int) [(0, 11, 14, 13)]] rmL_runScript (qPc g NL qT (qmem g S) [.ref (qa g 0), .int v1, .long w2, .ref (qa g 126)]) (qQi g NL qT (qmem g S2) r) 1 6 (qA g) := by
  refine q_wmet (by decide) (Nat.le_of_ble_eq_true rfl) (fun p e s m args below meth c C hr htab => ?_)
  have C : qC g cL_runScript RL 6 p s m meth c := C
  show qR g NL qT 6 p l e rmL_runScript s m args below meth c 0 0 (MQ below (qQi g NL qT (qmem g S2) r) args s 1 6 (qA g)) (qmem g S) 0 [(0, .ref (qa g 0)), (1, .int v1), (2, .long w2), (4, .ref (qa g 126))] []
  unfold FL_runScript at h
  refine q_aload C 3 dL_runScript_0 rfl ?_
  refine q_iconst (v := 0) C dL_runScript_2 (by decide) ?_
  refine q_aload_n C 0 dL_runScript_3 rfl rfl ?_
  refine q_iload_n C 1 dL_runScript_4 rfl rfl ?_
  refine q_lload_n C 2 dL_runScript_5 rfl rfl ?_
  obtain ⟨o1, S1, hc, h1, h2⟩ := obx_e h
  refine q_xcallC C ltp_0 (qmem_o kd_0 (Nat.le_of_ble_eq_true rfl)) rfl rfl (kX7_runScript hl9 n v1 w2 S hc) lmL_80 rfl (rest := [.int 0, .ref (qa g 126)]) rfl (Nat.le_of_ble_eq_true rfl) dL_runScript_6 ⟨rfl, rfl, Nat.le_of_ble_eq_true rfl, Nat.le_of_ble_eq_true rfl, Nat.le_of_ble_eq_true rfl, Nat.le_of_ble_eq_true rfl⟩ (fun k E hk hE => ?_) (fun r1 hr1 => ?_)
  · have h := h2 k hk
    rcases q_ite h with ⟨e0, h⟩ | ⟨e0, h⟩
    · subst e0
      cases hE
      refine q_catch C [] ⟨0, 11, 14, 13⟩ [] htab (fun z hz => nomatch hz) (by decide) (by decide) lxL_13 (by decide +kernel) (fun q9 => ?_)
      refine q_astore C (lv' := [(5, .ref q9), (0, .ref (qa g 0)), (1, .int v1), (2, .long w2), (4, .ref (qa g 126))]) dL_runScript_14 (by decide) rfl ?_
      refine q_iconst (v := 1) C dL_runScript_16 (by decide) ?_
      obtain ⟨rfl, rfl⟩ := Prod.mk.inj (Option.some.inj h)
      exact q_iret C hr (by decide) (by decide) dL_runScript_17
    cases h
  · have h := h1 r1 hr1
    refine q_i2l C dL_runScript_9 rfl ?_
    refine s_last C ltp_126 kd_126 (by decide) rfl dL_runScript_10 ?_
    refine q_goto (tgt := 18) C dL_runScript_11 (by decide) ?_
    refine q_iconst (v := 0) C dL_runScript_18 (by decide) ?_
    obtain ⟨rfl, rfl⟩ := Prod.mk.inj (Option.some.inj h)
    exact q_iret C hr (by decide) (by decide) dL_runScript_19
def FL_simulate (n : Nat) (w1 : Int64) (v3 : Int32) (S : qSt) : Option (Int32 × qSt) := obx (F7_simulate n w1 v3 S) (fun r1 S1 => some (0, qup S1 126 (0 : Int32).toNatClampNeg r1)) (fun k S1 => if k = 0 then some (1, S1) else none)
abbrev rmL_simulate : Room := { frames := 7, cells := 1, slots := 6, locals := 280 }
set_option maxRecDepth 100000 in
set_option maxHeartbeats 4000000 in
theorem kL_simulate {l : Launch} {g : qG} (hl9 : l.stackTraces = false) (n : Nat) (w1 : Int64) (v3 : Int32) (S : qSt) {r : Int32} {S2 : qSt} (h : FL_simulate n w1 v3 S = some (r, S2)) : Met l yL_simulate [.codeWith yL_simulate cL_simulate 6 (some .int) [(0, 11, 14, 13)]] rmL_simulate (qPc g NL qT (qmem g S) [.ref (qa g 0), .long w1, .int v3, .ref (qa g 126)]) (qQi g NL qT (qmem g S2) r) 1 6 (qA g) := by
  refine q_wmet (by decide) (Nat.le_of_ble_eq_true rfl) (fun p e s m args below meth c C hr htab => ?_)
  have C : qC g cL_simulate RL 6 p s m meth c := C
  show qR g NL qT 6 p l e rmL_simulate s m args below meth c 0 0 (MQ below (qQi g NL qT (qmem g S2) r) args s 1 6 (qA g)) (qmem g S) 0 [(0, .ref (qa g 0)), (1, .long w1), (3, .int v3), (4, .ref (qa g 126))] []
  unfold FL_simulate at h
  refine q_aload C 3 dL_simulate_0 rfl ?_
  refine q_iconst (v := 0) C dL_simulate_2 (by decide) ?_
  refine q_aload_n C 0 dL_simulate_3 rfl rfl ?_
  refine q_lload_n C 1 dL_simulate_4 rfl rfl ?_
  refine q_iload_n C 2 dL_simulate_5 rfl rfl ?_
  obtain ⟨o1, S1, hc, h1, h2⟩ := obx_e h
  refine q_xcallC C ltp_0 (qmem_o kd_0 (Nat.le_of_ble_eq_true rfl)) rfl rfl (kX7_simulate hl9 n w1 v3 S hc) lmL_84 rfl (rest := [.int 0, .ref (qa g 126)]) rfl (Nat.le_of_ble_eq_true rfl) dL_simulate_6 ⟨rfl, rfl, Nat.le_of_ble_eq_true rfl, Nat.le_of_ble_eq_true rfl, Nat.le_of_ble_eq_true rfl, Nat.le_of_ble_eq_true rfl⟩ (fun k E hk hE => ?_) (fun r1 hr1 => ?_)
  · have h := h2 k hk
    rcases q_ite h with ⟨e0, h⟩ | ⟨e0, h⟩
    · subst e0
      cases hE
      refine q_catch C [] ⟨0, 11, 14, 13⟩ [] htab (fun z hz => nomatch hz) (by decide) (by decide) lxL_13 (by decide +kernel) (fun q9 => ?_)
      refine q_astore C (lv' := [(5, .ref q9), (0, .ref (qa g 0)), (1, .long w1), (3, .int v3), (4, .ref (qa g 126))]) dL_simulate_14 (by decide) rfl ?_
      refine q_iconst (v := 1) C dL_simulate_16 (by decide) ?_
      obtain ⟨rfl, rfl⟩ := Prod.mk.inj (Option.some.inj h)
      exact q_iret C hr (by decide) (by decide) dL_simulate_17
    cases h
  · have h := h1 r1 hr1
    refine q_i2l C dL_simulate_9 rfl ?_
    refine s_last C ltp_126 kd_126 (by decide) rfl dL_simulate_10 ?_
    refine q_goto (tgt := 18) C dL_simulate_11 (by decide) ?_
    refine q_iconst (v := 0) C dL_simulate_18 (by decide) ?_
    obtain ⟨rfl, rfl⟩ := Prod.mk.inj (Option.some.inj h)
    exact q_iret C hr (by decide) (by decide) dL_simulate_19
def FL_save (n : Nat) (v1 : Int32) (S : qSt) : Option (Int32 × qSt) := obx (F7_save n v1 S) (fun r1 S1 => some (0, qup S1 126 (0 : Int32).toNatClampNeg r1)) (fun k S1 => if k = 2 then some (1, S1) else none)
abbrev rmL_save : Room := { frames := 8, cells := 1, slots := 6, locals := 320 }
set_option maxRecDepth 100000 in
set_option maxHeartbeats 4000000 in
theorem kL_save {l : Launch} {g : qG} (hl9 : l.stackTraces = false) (n : Nat) (v1 : Int32) (S : qSt) {r : Int32} {S2 : qSt} (h : FL_save n v1 S = some (r, S2)) : Met l yL_save [.codeWith yL_save cL_save 4 (some .int) [(0, 9, 12, 28)]] rmL_save (qPc g NL qT (qmem g S) [.ref (qa g 0), .int v1, .ref (qa g 126)]) (qQi g NL qT (qmem g S2) r) 1 6 (qA g) := by
  refine q_wmet (by decide) (Nat.le_of_ble_eq_true rfl) (fun p e s m args below meth c C hr htab => ?_)
  have C : qC g cL_save RL 4 p s m meth c := C
  show qR g NL qT 4 p l e rmL_save s m args below meth c 0 0 (MQ below (qQi g NL qT (qmem g S2) r) args s 1 6 (qA g)) (qmem g S) 0 [(0, .ref (qa g 0)), (1, .int v1), (2, .ref (qa g 126))] []
  unfold FL_save at h
  refine q_aload_n C 2 dL_save_0 rfl rfl ?_
  refine q_iconst (v := 0) C dL_save_1 (by decide) ?_
  refine q_aload_n C 0 dL_save_2 rfl rfl ?_
  refine q_iload_n C 1 dL_save_3 rfl rfl ?_
  obtain ⟨o1, S1, hc, h1, h2⟩ := obx_e h
  refine q_xcallC C ltp_0 (qmem_o kd_0 (Nat.le_of_ble_eq_true rfl)) rfl rfl (kX7_save hl9 n v1 S hc) lmL_88 rfl (rest := [.int 0, .ref (qa g 126)]) rfl (Nat.le_of_ble_eq_true rfl) dL_save_4 ⟨rfl, rfl, Nat.le_of_ble_eq_true rfl, Nat.le_of_ble_eq_true rfl, Nat.le_of_ble_eq_true rfl, Nat.le_of_ble_eq_true rfl⟩ (fun k E hk hE => ?_) (fun r1 hr1 => ?_)
  · have h := h2 k hk
    rcases q_ite h with ⟨e0, h⟩ | ⟨e0, h⟩
    · subst e0
      cases hE
      refine q_catch C [] ⟨0, 9, 12, 28⟩ [] htab (fun z hz => nomatch hz) (by decide) (by decide) lxL_28 (by decide +kernel) (fun q9 => ?_)
      refine q_astore_n C (lv' := [(3, .ref q9), (0, .ref (qa g 0)), (1, .int v1), (2, .ref (qa g 126))]) dL_save_12 rfl (by decide) rfl ?_
      refine q_iconst (v := 1) C dL_save_13 (by decide) ?_
      obtain ⟨rfl, rfl⟩ := Prod.mk.inj (Option.some.inj h)
      exact q_iret C hr (by decide) (by decide) dL_save_14
    cases h
  · have h := h1 r1 hr1
    refine q_i2l C dL_save_7 rfl ?_
    refine s_last C ltp_126 kd_126 (by decide) rfl dL_save_8 ?_
    refine q_goto (tgt := 15) C dL_save_9 (by decide) ?_
    refine q_iconst (v := 0) C dL_save_15 (by decide) ?_
    obtain ⟨rfl, rfl⟩ := Prod.mk.inj (Option.some.inj h)
    exact q_iret C hr (by decide) (by decide) dL_save_16
def FL_restore (n : Nat) (v1 : Int32) (S : qSt) : Option (Int32 × qSt) := obx (F7_restore n v1 S) (fun r1 S1 => some (0, qup S1 126 (0 : Int32).toNatClampNeg r1)) (fun k S1 => if k = 2 then some (1, S1) else if k = 1 then some (2, S1) else none)
abbrev rmL_restore : Room := { frames := 8, cells := 2, slots := 12, locals := 320 }
set_option maxRecDepth 100000 in
set_option maxHeartbeats 4000000 in
theorem kL_restore {l : Launch} {g : qG} (hl9 : l.stackTraces = false) (n : Nat) (v1 : Int32) (S : qSt) {r : Int32} {S2 : qSt} (h : FL_restore n v1 S = some (r, S2)) : Met l yL_restore [.codeWith yL_restore cL_restore 4 (some .int) [(0, 9, 12, 28), (0, 9, 15, 15)]] rmL_restore (qPc g NL qT (qmem g S) [.ref (qa g 0), .int v1, .ref (qa g 126)]) (qQi g NL qT (qmem g S2) r) 2 12 (qA g) := by
  refine q_wmet (by decide) (Nat.le_of_ble_eq_true rfl) (fun p e s m args below meth c C hr htab => ?_)
  have C : qC g cL_restore RL 4 p s m meth c := C
  show qR g NL qT 4 p l e rmL_restore s m args below meth c 0 0 (MQ below (qQi g NL qT (qmem g S2) r) args s 2 12 (qA g)) (qmem g S) 0 [(0, .ref (qa g 0)), (1, .int v1), (2, .ref (qa g 126))] []
  unfold FL_restore at h
  refine q_aload_n C 2 dL_restore_0 rfl rfl ?_
  refine q_iconst (v := 0) C dL_restore_1 (by decide) ?_
  refine q_aload_n C 0 dL_restore_2 rfl rfl ?_
  refine q_iload_n C 1 dL_restore_3 rfl rfl ?_
  obtain ⟨o1, S1, hc, h1, h2⟩ := obx_e h
  refine q_xcallC C ltp_0 (qmem_o kd_0 (Nat.le_of_ble_eq_true rfl)) rfl rfl (kX7_restore hl9 n v1 S hc) lmL_91 rfl (rest := [.int 0, .ref (qa g 126)]) rfl (Nat.le_of_ble_eq_true rfl) dL_restore_4 ⟨rfl, rfl, Nat.le_of_ble_eq_true rfl, Nat.le_of_ble_eq_true rfl, Nat.le_of_ble_eq_true rfl, Nat.le_of_ble_eq_true rfl⟩ (fun k E hk hE => ?_) (fun r1 hr1 => ?_)
  · have h := h2 k hk
    rcases q_ite h with ⟨e0, h⟩ | ⟨e0, h⟩
    · subst e0
      cases hE
      refine q_catch C [] ⟨0, 9, 12, 28⟩ [⟨0, 9, 15, 15⟩] htab (fun z hz => nomatch hz) (by decide) (by decide) lxL_28 (by decide +kernel) (fun q9 => ?_)
      refine q_astore_n C (lv' := [(3, .ref q9), (0, .ref (qa g 0)), (1, .int v1), (2, .ref (qa g 126))]) dL_restore_12 rfl (by decide) rfl ?_
      refine q_iconst (v := 1) C dL_restore_13 (by decide) ?_
      obtain ⟨rfl, rfl⟩ := Prod.mk.inj (Option.some.inj h)
      exact q_iret C hr (by decide) (by decide) dL_restore_14
    rcases q_ite h with ⟨e1, h⟩ | ⟨e1, h⟩
    · subst e1
      cases hE
      refine q_catch C [⟨0, 9, 12, 28⟩] ⟨0, 9, 15, 15⟩ [] htab (fun z hz => by rw [List.mem_singleton.mp hz]; exact ⟨by decide, _, lxL_28, by decide +kernel⟩) (by decide) (by decide) lxL_15 (by decide +kernel) (fun q9 => ?_)
      refine q_astore_n C (lv' := [(3, .ref q9), (0, .ref (qa g 0)), (1, .int v1), (2, .ref (qa g 126))]) dL_restore_15 rfl (by decide) rfl ?_
      refine q_iconst (v := 2) C dL_restore_16 (by decide) ?_
      obtain ⟨rfl, rfl⟩ := Prod.mk.inj (Option.some.inj h)
      exact q_iret C hr (by decide) (by decide) dL_restore_17
    cases h
  · have h := h1 r1 hr1
    refine q_i2l C dL_restore_7 rfl ?_
    refine s_last C ltp_126 kd_126 (by decide) rfl dL_restore_8 ?_
    refine q_goto (tgt := 18) C dL_restore_9 (by decide) ?_
    refine q_iconst (v := 0) C dL_restore_18 (by decide) ?_
    obtain ⟨rfl, rfl⟩ := Prod.mk.inj (Option.some.inj h)
    exact q_iret C hr (by decide) (by decide) dL_restore_19
end
