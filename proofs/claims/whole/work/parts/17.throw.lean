/-! EXCEPTIONS: an answer is a value or the number of an exception (0, 1, 2: as in qCast) -/
abbrev qOut : Type := Int32 ⊕ Nat
def qXi (g : qG) (out : qOut) (S2 : qSt) : Array Value → State → Outcome → State → Prop := va_Qi (S := Unit) (fun r _ => out = .inl r) (fun _ t => qE g NL qT (qmem g S2) t) (qA g)
def qXv (g : qG) (out : qOut) (S2 : qSt) : Array Value → State → Outcome → State → Prop := va_Qv (S := Unit) (fun _ => ∃ r, out = .inl r) (fun _ t => qE g NL qT (qmem g S2) t) (qA g)
def qXC (g : qG) (out : qOut) (S2 : qSt) : String → State → State → Prop := vx_X (S := Unit) (fun _ => True) (fun E _ t => (∃ k, out = .inr k ∧ qCast[k]? = some E) ∧ qE g NL qT (qmem g S2) t) (qA g)
def qnames : List String := ["java/lang/RuntimeException", "java/lang/Exception"]
/-- a word of a throw: one that stays, or one that is held apart -/
def qxw (w : Cond) : Bool := (decide (w ∈ lw_tbl) && goodWord w) || decide (w ∈ qCast.map (fun E => Cond.castable E E)) || decide (w ∈ qDecl.map (fun x => Cond.declares x))
theorem qxw_at {g : qG} {s : State} {args : Array Value} (h : qI g s s.heap) {w : Cond} (hw : qxw w = true) : w.before args s = true := by
  simp only [qxw, Bool.or_eq_true, Bool.and_eq_true, decide_eq_true_eq] at hw
  rcases hw with (⟨h1, h2⟩ | h1) | h1
  · exact word_at (State.WarmedH.refl s) (good_of_word h2) (h.1 w h1 h2)
  · obtain ⟨E, hE, rfl⟩ := List.mem_map.mp h1
    exact va_Nw.use rfl (h.2.2.2.1 E hE)
  · obtain ⟨x, hx, rfl⟩ := List.mem_map.mp h1
    exact va_Nw.use rfl (h.2.2.2.2.1 x hx)
/-- how an exception is made: class, link of the class, link of the constructor -/
def qLX (own : String) (ik ic k : Nat) (E : String) : Prop := qCast[k]? = some E ∧ Bundle.fit E = true ∧ qw (.classLink own ik E) ∧ qw (.initialized E) ∧ (∀ w ∈ vx_atS own ic E qnames, qxw w = true) ∧ (∀ w ∈ Cond.classLink own ik E :: Cond.initialized E :: vx_atS own ic E qnames, vx_ot w = true)
theorem qnames_fit : ∀ n ∈ qnames, Bundle.fit n = true := by decide +kernel
section QX
variable {g : qG} {nL : Nat} {p : Program} {l : Launch} {e : Env} {R : Room} {s : State} {m : MethodId} {args : Array Value} {below : List Frame} {meth : Method} {c : Code} {cells slots : Nat} {Q : State → Prop} {S : qSt} {pc : Nat} {lv : List (Nat × Value)} {rest : List Value} {cc : ByteArray} {own : String} {out : qOut} {S2 : qSt} {mc ms : Nat}
theorem q_xiret (C : qC g cc own nL p s m meth c) {v : Int32} (hr : meth.sig.returnType = some .int) (h : some (Sum.inl v, S) = some (out, S2)) (h1 : cells ≤ mc) (h2 : slots ≤ ms) (hdg : decode cc pc = .ok (.ireturn, 1)) : qR g NL qT nL p l e R s m args below meth c cells slots (vx_MQ below (qXi g out S2) (qXC g out S2) args s mc ms (qA g)) (qmem g S) pc lv [.int v] := by
  obtain ⟨rfl, rfl⟩ := Prod.mk.inj (Option.some.inj h)
  intro H locs ls hP hh hS hl
  have hlocks := C.2.2.2.2.1
  refine W.widen h1 h2 (vx_ret ?_)
  exact W.iret C.1 C.2.1 hr (fun t ht hW => ⟨⟨v, (), rfl, rfl, by rw [← ht] at hP hh; exact ⟨hP, hh⟩⟩, hS.F ht⟩) hS.2.2 hdg
theorem q_xvret (C : qC g cc own nL p s m meth c) {v : Int32} (hr : meth.sig.returnType = none) (h : some (Sum.inl v, S) = some (out, S2)) (h1 : cells ≤ mc) (h2 : slots ≤ ms) (hdg : decode cc pc = .ok (.return_, 1)) : qR g NL qT nL p l e R s m args below meth c cells slots (vx_MQ below (qXv g out S2) (qXC g out S2) args s mc ms (qA g)) (qmem g S) pc lv [] := by
  obtain ⟨rfl, rfl⟩ := Prod.mk.inj (Option.some.inj h)
  intro H locs ls hP hh hS hl
  have hlocks := C.2.2.2.2.1
  refine W.widen h1 h2 (vx_ret ?_)
  exact W.vret C.1 C.2.1 hr (fun t ht hW => ⟨⟨(), rfl, ⟨v, rfl⟩, by rw [← ht] at hP hh; exact ⟨hP, hh⟩⟩, hS.F ht⟩) hS.2.2 hdg
theorem q_throw (C : qC g cc own nL p s m meth c) {Qc : Array Value → State → Outcome → State → Prop} {ik ic is i k : Nat} {E tx : String} (hl9 : l.stackTraces = false) (L : qLX own ik ic k E) (hi : qStr[i]? = some (own, is, tx)) (h : some (Sum.inr k, S) = some (out, S2)) (hno : ∀ x ∈ c.exceptionTable.toList, False) (hrf : 5 < R.frames) (hrl : (rest.map fun v => v.category).sum + 82 ≤ R.locals) (hrc : cells + 1 ≤ R.cells ∧ slots + 6 ≤ R.slots) (hc : cells + 1 ≤ mc ∧ slots + 6 ≤ ms)
    (d0 : decode cc pc = .ok (.new ik, 3)) (d3 : decode cc (pc + 3) = .ok (.dup, 1)) (d4 : decode cc (pc + 4) = .ok (.ldc is, 2)) (d6 : decode cc (pc + 6) = .ok (.invokespecial ic, 3)) (d9 : decode cc (pc + 9) = .ok (.athrow, 1)) : qR g NL qT nL p l e R s m args below meth c cells slots (vx_MQ below Qc (qXC g out S2) args s mc ms (qA g)) (qmem g S) pc lv rest := by
  obtain ⟨rfl, rfl⟩ := Prod.mk.inj (Option.some.inj h)
  obtain ⟨x1, x2, x3, x4, x5, x6⟩ := L
  intro H locs ls hP hh hS hl
  refine vx_throwS (text := tx) (sa := g.2.2.2.1 i) (A := qA g) (names := qnames) (rest := rest) C.1 C.2.1 hl9 C.2.2.2.1 x2 qnames_fit (C.w x3) (C.w x4) (C.I.2.2.2.2.2.1 i _ hi) (fun w hw => qxw_at C.I (x5 w hw)) x6 C.I.2.2.2.2.2.2.1 C.I.2.2.2.2.2.2.2.1 hS (hl.1.trans C.2.2.1.symm) d0 d3 d4 d6 d9 (fun x hx => (hno x hx).elim) hrf hrl hrc.1 hrc.2 C.2.2.2.2.1 ?_ hS.2.2 hc.1 hc.2
  intro t hvm hsz hkp
  refine ⟨(), trivial, ⟨⟨k, rfl, x1⟩, ?_, trivial⟩, Nat.le_trans hS.1 hsz, fun q h1 h2 => (hkp q (Nat.lt_of_lt_of_le h1 hS.1)).trans (hS.2.1 q h1 h2)⟩
  exact fun k9 q9 hk9 => (hP k9 q9 hk9).kept (hkp q9.1 ((hP k9 q9 hk9).lt))
theorem q_throwW (C : qC g cc own nL p s m meth c) {Qc : Array Value → State → Outcome → State → Prop} {ik ic is i k : Nat} {E tx : String} (hl9 : l.stackTraces = false) (L : qLX own ik ic k E) (hi : qStr[i]? = some (own, is, tx)) (h : some (Sum.inr k, S) = some (out, S2)) (hno : ∀ x ∈ c.exceptionTable.toList, False) (hrf : 5 < R.frames) (hrl : (rest.map fun v => v.category).sum + 82 ≤ R.locals) (hrc : cells + 1 ≤ R.cells ∧ slots + 6 ≤ R.slots) (hc : cells + 1 ≤ mc ∧ slots + 6 ≤ ms)
    (d0 : decode cc pc = .ok (.new ik, 3)) (d3 : decode cc (pc + 3) = .ok (.dup, 1)) (d4 : decode cc (pc + 4) = .ok (.ldc_w is, 3)) (d6 : decode cc (pc + 7) = .ok (.invokespecial ic, 3)) (d9 : decode cc (pc + 10) = .ok (.athrow, 1)) : qR g NL qT nL p l e R s m args below meth c cells slots (vx_MQ below Qc (qXC g out S2) args s mc ms (qA g)) (qmem g S) pc lv rest := by
  obtain ⟨rfl, rfl⟩ := Prod.mk.inj (Option.some.inj h)
  obtain ⟨x1, x2, x3, x4, x5, x6⟩ := L
  intro H locs ls hP hh hS hl
  refine vx_throwSW (text := tx) (sa := g.2.2.2.1 i) (A := qA g) (names := qnames) (rest := rest) C.1 C.2.1 hl9 C.2.2.2.1 x2 qnames_fit (C.w x3) (C.w x4) (C.I.2.2.2.2.2.1 i _ hi) (fun w hw => qxw_at C.I (x5 w hw)) x6 C.I.2.2.2.2.2.2.1 C.I.2.2.2.2.2.2.2.1 hS (hl.1.trans C.2.2.1.symm) d0 d3 d4 d6 d9 (fun x hx => (hno x hx).elim) hrf hrl hrc.1 hrc.2 C.2.2.2.2.1 ?_ hS.2.2 hc.1 hc.2
  intro t hvm hsz hkp
  refine ⟨(), trivial, ⟨⟨k, rfl, x1⟩, ?_, trivial⟩, Nat.le_trans hS.1 hsz, fun q h1 h2 => (hkp q (Nat.lt_of_lt_of_le h1 hS.1)).trans (hS.2.1 q h1 h2)⟩
  exact fun k9 q9 hk9 => (hP k9 q9 hk9).kept (hkp q9.1 ((hP k9 q9 hk9).lt))
theorem q_xcallVi (C : qC g cc own nL p s m meth c) {y : MethodName} {bytes : ByteArray} {rm : Room} {maxL n mc1 ms1 index : Nat} {As st0 : List Value} {ret : Option FieldType} {o1 : qOut} {S1 : qSt} {Qc : Array Value → State → Outcome → State → Prop} {o ci : Nat} {fs : List Value} {q : vw_C} (ho : o < NL) (hMo : qmem g S o = .inr (ci, fs)) (hc : vwCl[ci]? = some q) (hq : q.1 = y.cls) (hM : vx_Met l y [.code y bytes maxL ret] rm (qPc g NL qT (qmem g S) (.ref (qa g o) :: As)) (qXi g o1 S1) (qXC g o1 S1) mc1 ms1 (qA g)) (L : qLV own index y bytes maxL ret n) (hn : As.length = n) (hst : st0 = As.reverse ++ .ref (qa g o) :: rest) (hcat : (rest.map fun v => v.category).sum ≤ 8) (hdg : decode cc pc = .ok (.invokevirtual index, 3)) (hrm : qRm rm R maxL cells slots mc1 ms1) (hno : ∀ x ∈ c.exceptionTable.toList, False) (hc9 : cells + mc1 ≤ mc ∧ slots + ms1 ≤ ms) (kx : ∀ k : Nat, o1 = .inr k → out = .inr k ∧ S1 = S2) (k : ∀ r : Int32, o1 = .inl r → qR g NL qT nL p l e R s m args below meth c (cells + mc1) (slots + ms1) (vx_MQ below Qc (qXC g out S2) args s mc ms (qA g)) (qmem g S1) (pc + 3) lv (.int r :: rest)) : qR g NL qT nL p l e R s m args below meth c cells slots (vx_MQ below Qc (qXC g out S2) args s mc ms (qA g)) (qmem g S) pc lv st0 := by
  intro H locs ls hP hh hS hl
  refine vx_calli (vx_runV (As := As) (rest := rest) (Ts := []) ⟨C.1, C.2.1, C.2.2.1, C.2.2.2.1, fun w h => nomatch h⟩ hM (L.cw (R := R) (args := args) C hrm) ⟨qPc_blind _ _ _ _ _, hq ▸ va_recv C.K hP (q0 := o) (fs := fs) hc (by rw [qW_at ho, hMo]), C.at hP hh hS _⟩ rfl hn hl.1 hst (lv_room hcat) hdg ⟨hrm.2.2.2.2.1, hrm.2.2.2.2.2⟩) hS (fun q _ h => h) (fun q h => h) (fun q _ h => h) ?_ (fun r u t H1 locs1 ht hvm hw hB hz0 hk1 hS1 => by rw [← ht] at hS1 ⊢; exact k r hw _ _ ls hB.1 hB.2 hS1 hl)
  intro E ce q9 u t H1 locs1 ht hvm hu hB hsz hkp hS1 hcell hv hcl
  obtain ⟨⟨k9, e1, e2⟩, hE1, hE2⟩ := hB
  obtain ⟨rfl, rfl⟩ := kx k9 e1
  refine vx_out (fun x hx => (hno x hx).elim) C.2.2.2.2.1 hcell hv hcl ?_ hS1.2.2 hc9.1 hc9.2
  intro t' ht' hvm'
  refine ⟨(), trivial, ⟨⟨k9, rfl, e2⟩, by rw [ht', ← ht]; exact hE1, trivial⟩, by rw [ht']; exact hS1.1, fun q h1 h2 => by rw [ht']; exact hS1.2.1 q h1 h2⟩
theorem q_xcallVv (C : qC g cc own nL p s m meth c) {y : MethodName} {bytes : ByteArray} {rm : Room} {maxL n mc1 ms1 index : Nat} {As st0 : List Value} {ret : Option FieldType} {o1 : qOut} {S1 : qSt} {Qc : Array Value → State → Outcome → State → Prop} {o ci : Nat} {fs : List Value} {q : vw_C} (ho : o < NL) (hMo : qmem g S o = .inr (ci, fs)) (hc : vwCl[ci]? = some q) (hq : q.1 = y.cls) (hM : vx_Met l y [.code y bytes maxL ret] rm (qPc g NL qT (qmem g S) (.ref (qa g o) :: As)) (qXv g o1 S1) (qXC g o1 S1) mc1 ms1 (qA g)) (L : qLV own index y bytes maxL ret n) (hn : As.length = n) (hst : st0 = As.reverse ++ .ref (qa g o) :: rest) (hcat : (rest.map fun v => v.category).sum ≤ 8) (hdg : decode cc pc = .ok (.invokevirtual index, 3)) (hrm : qRm rm R maxL cells slots mc1 ms1) (hno : ∀ x ∈ c.exceptionTable.toList, False) (hc9 : cells + mc1 ≤ mc ∧ slots + ms1 ≤ ms) (kx : ∀ k : Nat, o1 = .inr k → out = .inr k ∧ S1 = S2) (k : ∀ r : Int32, o1 = .inl r → qR g NL qT nL p l e R s m args below meth c (cells + mc1) (slots + ms1) (vx_MQ below Qc (qXC g out S2) args s mc ms (qA g)) (qmem g S1) (pc + 3) lv rest) : qR g NL qT nL p l e R s m args below meth c cells slots (vx_MQ below Qc (qXC g out S2) args s mc ms (qA g)) (qmem g S) pc lv st0 := by
  intro H locs ls hP hh hS hl
  refine vx_callv (vx_runV (As := As) (rest := rest) (Ts := []) ⟨C.1, C.2.1, C.2.2.1, C.2.2.2.1, fun w h => nomatch h⟩ hM (L.cw (R := R) (args := args) C hrm) ⟨qPc_blind _ _ _ _ _, hq ▸ va_recv C.K hP (q0 := o) (fs := fs) hc (by rw [qW_at ho, hMo]), C.at hP hh hS _⟩ rfl hn hl.1 hst (lv_room hcat) hdg ⟨hrm.2.2.2.2.1, hrm.2.2.2.2.2⟩) hS (fun q _ h => h) (fun q h => h) (fun q _ h => h) ?_ (fun u t H1 locs1 ht hvm hw hB hz0 hk1 hS1 => by obtain ⟨r, hw⟩ := hw; rw [← ht] at hS1 ⊢; exact k r hw _ _ ls hB.1 hB.2 hS1 hl)
  intro E ce q9 u t H1 locs1 ht hvm hu hB hsz hkp hS1 hcell hv hcl
  obtain ⟨⟨k9, e1, e2⟩, hE1, hE2⟩ := hB
  obtain ⟨rfl, rfl⟩ := kx k9 e1
  refine vx_out (fun x hx => (hno x hx).elim) C.2.2.2.2.1 hcell hv hcl ?_ hS1.2.2 hc9.1 hc9.2
  intro t' ht' hvm'
  refine ⟨(), trivial, ⟨⟨k9, rfl, e2⟩, by rw [ht', ← ht]; exact hE1, trivial⟩, by rw [ht']; exact hS1.1, fun q h1 h2 => by rw [ht']; exact hS1.2.1 q h1 h2⟩
theorem q_xcallSi (C : qC g cc own nL p s m meth c) {y : MethodName} {bytes : ByteArray} {rm : Room} {maxL n mc1 ms1 index : Nat} {As st0 : List Value} {ret : Option FieldType} {o1 : qOut} {S1 : qSt} {Qc : Array Value → State → Outcome → State → Prop} (hM : vx_Met l y [.code y bytes maxL ret] rm (qPc g NL qT (qmem g S) As) (qXi g o1 S1) (qXC g o1 S1) mc1 ms1 (qA g)) (L : qLS own index y bytes maxL ret n) (hn : As.length = n) (hst : st0 = As.reverse ++ rest) (hcat : (rest.map fun v => v.category).sum ≤ 8) (hdg : decode cc pc = .ok (.invokestatic index, 3)) (hrm : qRm rm R maxL cells slots mc1 ms1) (hno : ∀ x ∈ c.exceptionTable.toList, False) (hc9 : cells + mc1 ≤ mc ∧ slots + ms1 ≤ ms) (kx : ∀ k : Nat, o1 = .inr k → out = .inr k ∧ S1 = S2) (k : ∀ r : Int32, o1 = .inl r → qR g NL qT nL p l e R s m args below meth c (cells + mc1) (slots + ms1) (vx_MQ below Qc (qXC g out S2) args s mc ms (qA g)) (qmem g S1) (pc + 3) lv (.int r :: rest)) : qR g NL qT nL p l e R s m args below meth c cells slots (vx_MQ below Qc (qXC g out S2) args s mc ms (qA g)) (qmem g S) pc lv st0 := by
  intro H locs ls hP hh hS hl
  refine vx_calli (vx_runS (As := As) (rest := rest) (Ts := []) ⟨C.1, C.2.1, C.2.2.1, C.2.2.2.1, fun w h => nomatch h⟩ hM (L.cw (R := R) (args := args) C hrm) ⟨qPc_blind _ _ _ _ _, C.at hP hh hS _⟩ rfl hn hl.1 hst (lv_room hcat) hdg ⟨hrm.2.2.2.2.1, hrm.2.2.2.2.2⟩) hS (fun q _ h => h) (fun q h => h) (fun q _ h => h) ?_ (fun r u t H1 locs1 ht hvm hw hB hz0 hk1 hS1 => by rw [← ht] at hS1 ⊢; exact k r hw _ _ ls hB.1 hB.2 hS1 hl)
  intro E ce q9 u t H1 locs1 ht hvm hu hB hsz hkp hS1 hcell hv hcl
  obtain ⟨⟨k9, e1, e2⟩, hE1, hE2⟩ := hB
  obtain ⟨rfl, rfl⟩ := kx k9 e1
  refine vx_out (fun x hx => (hno x hx).elim) C.2.2.2.2.1 hcell hv hcl ?_ hS1.2.2 hc9.1 hc9.2
  intro t' ht' hvm'
  refine ⟨(), trivial, ⟨⟨k9, rfl, e2⟩, by rw [ht', ← ht]; exact hE1, trivial⟩, by rw [ht']; exact hS1.1, fun q h1 h2 => by rw [ht']; exact hS1.2.1 q h1 h2⟩
theorem q_xcallSv (C : qC g cc own nL p s m meth c) {y : MethodName} {bytes : ByteArray} {rm : Room} {maxL n mc1 ms1 index : Nat} {As st0 : List Value} {ret : Option FieldType} {o1 : qOut} {S1 : qSt} {Qc : Array Value → State → Outcome → State → Prop} (hM : vx_Met l y [.code y bytes maxL ret] rm (qPc g NL qT (qmem g S) As) (qXv g o1 S1) (qXC g o1 S1) mc1 ms1 (qA g)) (L : qLS own index y bytes maxL ret n) (hn : As.length = n) (hst : st0 = As.reverse ++ rest) (hcat : (rest.map fun v => v.category).sum ≤ 8) (hdg : decode cc pc = .ok (.invokestatic index, 3)) (hrm : qRm rm R maxL cells slots mc1 ms1) (hno : ∀ x ∈ c.exceptionTable.toList, False) (hc9 : cells + mc1 ≤ mc ∧ slots + ms1 ≤ ms) (kx : ∀ k : Nat, o1 = .inr k → out = .inr k ∧ S1 = S2) (k : ∀ r : Int32, o1 = .inl r → qR g NL qT nL p l e R s m args below meth c (cells + mc1) (slots + ms1) (vx_MQ below Qc (qXC g out S2) args s mc ms (qA g)) (qmem g S1) (pc + 3) lv rest) : qR g NL qT nL p l e R s m args below meth c cells slots (vx_MQ below Qc (qXC g out S2) args s mc ms (qA g)) (qmem g S) pc lv st0 := by
  intro H locs ls hP hh hS hl
  refine vx_callv (vx_runS (As := As) (rest := rest) (Ts := []) ⟨C.1, C.2.1, C.2.2.1, C.2.2.2.1, fun w h => nomatch h⟩ hM (L.cw (R := R) (args := args) C hrm) ⟨qPc_blind _ _ _ _ _, C.at hP hh hS _⟩ rfl hn hl.1 hst (lv_room hcat) hdg ⟨hrm.2.2.2.2.1, hrm.2.2.2.2.2⟩) hS (fun q _ h => h) (fun q h => h) (fun q _ h => h) ?_ (fun u t H1 locs1 ht hvm hw hB hz0 hk1 hS1 => by obtain ⟨r, hw⟩ := hw; rw [← ht] at hS1 ⊢; exact k r hw _ _ ls hB.1 hB.2 hS1 hl)
  intro E ce q9 u t H1 locs1 ht hvm hu hB hsz hkp hS1 hcell hv hcl
  obtain ⟨⟨k9, e1, e2⟩, hE1, hE2⟩ := hB
  obtain ⟨rfl, rfl⟩ := kx k9 e1
  refine vx_out (fun x hx => (hno x hx).elim) C.2.2.2.2.1 hcell hv hcl ?_ hS1.2.2 hc9.1 hc9.2
  intro t' ht' hvm'
  refine ⟨(), trivial, ⟨⟨k9, rfl, e2⟩, by rw [ht', ← ht]; exact hE1, trivial⟩, by rw [ht']; exact hS1.1, fun q h1 h2 => by rw [ht']; exact hS1.2.1 q h1 h2⟩
theorem q_widen {k n : Nat} (h1 : cells ≤ k) (h2 : slots ≤ n) (kk : qR g NL qT nL p l e R s m args below meth c k n Q (qmem g S) pc lv rest) : qR g NL qT nL p l e R s m args below meth c cells slots Q (qmem g S) pc lv rest :=
  fun H locs ls hP hh hS hl => W.widen h1 h2 (kk H locs ls hP hh hS hl)
end QX
/-- a contract of a method that may throw, out of a walk -/
theorem q_xmet {l : Launch} {g : qG} {M : Nat → va_E} {y : MethodName} {cc : ByteArray} {nL mc ms : Nat} {ret : Option FieldType} {rm : Room} {av : List Value} {Qc : Array Value → State → Outcome → State → Prop} {XC : String → State → State → Prop} (hy : plainName y.cls = true) (hnL : (lg_sl av).length ≤ nL)
    (body : ∀ (p : Program) (e : Env) (s : State) (m : MethodId) (args : Array Value) (below : List Frame) (meth : Method) (c : Code), qC g cc y.cls nL p s m meth c → meth.sig.returnType = ret → (∀ x ∈ c.exceptionTable.toList, False) → qR g NL qT nL p l e rm s m args below meth c 0 0 (vx_MQ below Qc XC args s mc ms (qA g)) M 0 (lv_args 0 av) []) : vx_Met l y [.code y cc nL ret] rm (qPc g NL qT M av) Qc XC mc ms (qA g) := by
  refine vx_ofW (cc := cc) (maxL := nL) (ret := ret) hy rfl ?_
  intro p e s m args below meth c s₁ B hml hno hv
  obtain ⟨rfl, hI, ⟨hP, hh⟩, hb⟩ := hv
  have hC : qC g cc y.cls nL p s m meth c := ⟨B.exec, B.bytes, hml, findClass_of_methodNamed B.named, B.notSynchronized, hI, hb⟩
  rw [lg_entry_eq]
  exact body p e s m av.toArray below meth c hC B.returns hno s.heap [] _ hP hh va_S.rf (lv_entry av hnL)
/-- what a call that may throw gives -/
def obx {γ : Type} (x : Option (qOut × qSt)) (f : Int32 → qSt → Option γ) (h : Nat → qSt → Option γ) : Option γ := match x with
  | none => none
  | some (.inl r, S) => f r S
  | some (.inr k, S) => h k S
theorem obx_e {γ : Type} {x : Option (qOut × qSt)} {f : Int32 → qSt → Option γ} {h : Nat → qSt → Option γ} {r : γ} (e : obx x f h = some r) : ∃ o1 S1, x = some (o1, S1) ∧ (∀ v, o1 = .inl v → f v S1 = some r) ∧ (∀ k, o1 = .inr k → h k S1 = some r) := by
  cases x with
  | none => cases e
  | some q =>
    obtain ⟨o1, S1⟩ := q
    refine ⟨o1, S1, rfl, fun v hv => ?_, fun k hk => ?_⟩
    · subst hv; exact e
    · subst hk; exact e
/-- an exception that goes on -/
def opx (k : Nat) (S : qSt) : Option (qOut × qSt) := some (.inr k, S)
theorem opx_e {k : Nat} {S S2 : qSt} {out : qOut} (h : opx k S = some (out, S2)) : out = .inr k ∧ S = S2 := by
  obtain ⟨h1, h2⟩ := Prod.mk.inj (Option.some.inj h)
  exact ⟨h1.symm, h2⟩
theorem lx7_E0 : qLX RX7 64 68 0 "java/lang/IllegalArgumentException" := ⟨rfl, by decide +kernel, (qwi 504 (by decide +kernel) (by decide +kernel)), (qwi 58 (by decide +kernel) (by decide +kernel)), by decide +kernel, by decide +kernel⟩
theorem lx7_E1 : qLX RX7 75 79 1 "java/lang/IllegalStateException" := ⟨rfl, by decide +kernel, (qwi 571 (by decide +kernel) (by decide +kernel)), (qwi 59 (by decide +kernel) (by decide +kernel)), by decide +kernel, by decide +kernel⟩
theorem lx7_E2 : qLX RX7 292 296 2 "java/lang/IndexOutOfBoundsException" := ⟨rfl, by decide +kernel, (qwi 640 (by decide +kernel) (by decide +kernel)), (qwi 65 (by decide +kernel) (by decide +kernel)), by decide +kernel, by decide +kernel⟩
