/-! MAKING: places come one by one; the heap's size is known -/
def qZ (g : qG) (N : Nat) : Nat → Prop := fun k => k = g.2.1 + N
section QK
variable {g : qG} {N : Nat} {hz : Nat → Prop} {nL : Nat} {p : Program} {l : Launch} {e : Env} {R : Room} {s : State} {m : MethodId} {args : Array Value} {below : List Frame} {meth : Method} {c : Code} {cells slots : Nat} {Q : State → Prop} {M : Nat → va_E} {pc : Nat} {lv : List (Nat × Value)} {rest : List Value} {cc : ByteArray} {own : String}
theorem qP_push {H H1 : Heap} {x : va_E} (hP : va_P g.1 vwCl (qW g N M) H) (hh : qZ g N H.size) (o1 : ∀ q, q < H.size → H1[q]? = H[q]?) (hx : va_at g.1 vwCl (qa g N, x) H1) : va_P g.1 vwCl (qW g (N + 1) (va_up M N x)) H1 := by
  rw [← qW_push]
  have hk : ∀ (k : Nat) (y : Nat × va_E), (qW g N M)[k]? = some y → H1[y.1]? = H[y.1]? := fun k y hy => o1 y.1 ((hP k y hy).lt)
  refine (hP.kept hk).app (fun k y hy => ?_)
  have hz : k < 1 := (List.getElem?_eq_some_iff.mp hy).1
  rw [show k = 0 by omega] at hy
  cases hy
  exact hx
theorem qS_push {H H1 : Heap} {locs : List Loc} (hS : va_S (qA g) s.heap H locs) (z1 : H1.size = H.size + 1) (o1 : ∀ q, q < H.size → H1[q]? = H[q]?) : va_S (qA g) s.heap H1 locs :=
  ⟨Nat.le_trans hS.1 (by omega), fun x h1 h2 => (o1 x (Nat.lt_of_lt_of_le h1 hS.1)).trans (hS.2.1 x h1 h2), hS.2.2⟩
theorem q_new (C : qC g cc own nL p s m meth c) {ci index : Nat} {q : vw_C} {fs : List Value} (hc : vwCl[ci]? = some q) (hcl : qw (.classLink own index q.1)) (hins : qw (.instantiable q.1 q.2.2)) (hini : qw (.initialized q.1)) (ty0 : Nat → FieldType) (hty : ∀ k, k < q.2.2 → parseFieldDescriptor (q.2.1 k).2.2.1 = some (ty0 k)) (hfs : ∀ j, j < q.2.2 → defaultValue (ty0 j) = vp_V fs j) (hrc : cells + 1 ≤ R.cells ∧ slots + q.2.2 ≤ R.slots) (hdg : decode cc pc = .ok (.new index, 3)) (kk : qR g (N + 1) (qZ g (N + 1)) nL p l e R s m args below meth c (cells + 1) (slots + q.2.2) Q (va_up M N (.inr (ci, fs))) (pc + 3) lv (.ref (qa g N) :: rest)) : qR g N (qZ g N) nL p l e R s m args below meth c cells slots Q M pc lv rest := by
  intro H locs ls hP hh hS hl
  have hKn := C.K.1 ci _ hc
  have hts := qcl_ts (args := args) C hc
  refine W.newcK C.1 C.2.1 C.2.2.2.1 (C.w hcl) (C.w hins) (C.w hini) rfl hdg hrc.1 hrc.2 hKn.2.1 (h := qa g N) hh fun H1 kC hkC e1 z1 o1 => ?_
  have hsz : H.size = qa g N := hh
  refine kk H1 locs ls (qP_push hP hh (fun x hx => o1 x (by omega)) ?_) ?_ (qS_push hS (by omega) (fun x hx => o1 x (by omega))) hl
  · exact ⟨_, hc, (u_born ty0 hts (fun w hw => hw) hKn hkC e1 hty).to hfs⟩
  · show H1.size = g.2.1 + (N + 1)
    rw [z1]
    unfold qa
    omega
theorem q_newa_i (C : qC g cc own nL p s m meth c) {n : Int32} {n9 : Nat} (hw : qw (.arrayClass .int)) (hn : ¬ n < 0) (hN : n.toNatClampNeg = n9) (hbytes : n9 * 8 ≤ 536870912) (hrc : cells + 1 ≤ R.cells ∧ slots + n9 ≤ R.slots) (hdg : decode cc pc = .ok (.newarray .int, 2)) (kk : qR g (N + 1) (qZ g (N + 1)) nL p l e R s m args below meth c (cells + 1) (slots + n9) Q (va_up M N (.inl (g.2.2.1 0, n9, .inl fun _ => 0))) (pc + 2) lv (.ref (qa g N) :: rest)) : qR g N (qZ g N) nL p l e R s m args below meth c cells slots Q M pc lv (.int n :: rest) := by
  intro H locs ls hP hh hS hl
  refine va_newaK (atype := .int) C.1 C.2.1 (C.w hw) rfl hdg rfl hn hN (by refine Nat.le_trans (Nat.mul_le_mul_left n9 ?_) hbytes; decide) hrc.1 hrc.2 (h := qa g N) hh fun H1 cA e1 z1 o1 hAr hNm => ?_
  have hsz : H.size = qa g N := hh
  have hcA : cA = g.2.2.1 0 := Option.some.inj (hNm.symm.trans (C.K.2 0 (g.2.2.1 0, .int) rfl).2)
  subst hcA
  refine kk H1 locs ls (qP_push hP hh (fun x hx => o1 x (by omega)) e1) ?_ (qS_push hS (by omega) (fun x hx => o1 x (by omega))) hl
  show H1.size = g.2.1 + (N + 1)
  rw [z1]
  unfold qa
  omega
theorem q_newa_z (C : qC g cc own nL p s m meth c) {n : Int32} {n9 : Nat} (hw : qw (.arrayClass .boolean)) (hn : ¬ n < 0) (hN : n.toNatClampNeg = n9) (hbytes : n9 * 8 ≤ 536870912) (hrc : cells + 1 ≤ R.cells ∧ slots + n9 ≤ R.slots) (hdg : decode cc pc = .ok (.newarray .boolean, 2)) (kk : qR g (N + 1) (qZ g (N + 1)) nL p l e R s m args below meth c (cells + 1) (slots + n9) Q (va_up M N (.inl (g.2.2.1 1, n9, .inl fun _ => 0))) (pc + 2) lv (.ref (qa g N) :: rest)) : qR g N (qZ g N) nL p l e R s m args below meth c cells slots Q M pc lv (.int n :: rest) := by
  intro H locs ls hP hh hS hl
  refine va_newaK (atype := .boolean) C.1 C.2.1 (C.w hw) rfl hdg rfl hn hN (by refine Nat.le_trans (Nat.mul_le_mul_left n9 ?_) hbytes; decide) hrc.1 hrc.2 (h := qa g N) hh fun H1 cA e1 z1 o1 hAr hNm => ?_
  have hsz : H.size = qa g N := hh
  have hcA : cA = g.2.2.1 1 := Option.some.inj (hNm.symm.trans (C.K.2 1 (g.2.2.1 1, .boolean) rfl).2)
  subst hcA
  refine kk H1 locs ls (qP_push hP hh (fun x hx => o1 x (by omega)) e1) ?_ (qS_push hS (by omega) (fun x hx => o1 x (by omega))) hl
  show H1.size = g.2.1 + (N + 1)
  rw [z1]
  unfold qa
  omega
theorem q_newa_c (C : qC g cc own nL p s m meth c) {n : Int32} {n9 : Nat} (hw : qw (.arrayClass .char)) (hn : ¬ n < 0) (hN : n.toNatClampNeg = n9) (hbytes : n9 * 8 ≤ 536870912) (hrc : cells + 1 ≤ R.cells ∧ slots + n9 ≤ R.slots) (hdg : decode cc pc = .ok (.newarray .char, 2)) (kk : qR g (N + 1) (qZ g (N + 1)) nL p l e R s m args below meth c (cells + 1) (slots + n9) Q (va_up M N (.inl (g.2.2.1 2, n9, .inl fun _ => 0))) (pc + 2) lv (.ref (qa g N) :: rest)) : qR g N (qZ g N) nL p l e R s m args below meth c cells slots Q M pc lv (.int n :: rest) := by
  intro H locs ls hP hh hS hl
  refine va_newaK (atype := .char) C.1 C.2.1 (C.w hw) rfl hdg rfl hn hN (by refine Nat.le_trans (Nat.mul_le_mul_left n9 ?_) hbytes; decide) hrc.1 hrc.2 (h := qa g N) hh fun H1 cA e1 z1 o1 hAr hNm => ?_
  have hsz : H.size = qa g N := hh
  have hcA : cA = g.2.2.1 2 := Option.some.inj (hNm.symm.trans (C.K.2 2 (g.2.2.1 2, .char) rfl).2)
  subst hcA
  refine kk H1 locs ls (qP_push hP hh (fun x hx => o1 x (by omega)) e1) ?_ (qS_push hS (by omega) (fun x hx => o1 x (by omega))) hl
  show H1.size = g.2.1 + (N + 1)
  rw [z1]
  unfold qa
  omega
theorem q_newa_l (C : qC g cc own nL p s m meth c) {n : Int32} {n9 : Nat} (hw : qw (.arrayClass .long)) (hn : ¬ n < 0) (hN : n.toNatClampNeg = n9) (hbytes : n9 * 8 ≤ 536870912) (hrc : cells + 1 ≤ R.cells ∧ slots + n9 ≤ R.slots) (hdg : decode cc pc = .ok (.newarray .long, 2)) (kk : qR g (N + 1) (qZ g (N + 1)) nL p l e R s m args below meth c (cells + 1) (slots + n9) Q (va_up M N (.inl (g.2.2.1 3, n9, .inr (.inl fun _ => 0)))) (pc + 2) lv (.ref (qa g N) :: rest)) : qR g N (qZ g N) nL p l e R s m args below meth c cells slots Q M pc lv (.int n :: rest) := by
  intro H locs ls hP hh hS hl
  refine va_newaK (atype := .long) C.1 C.2.1 (C.w hw) rfl hdg rfl hn hN (by refine Nat.le_trans (Nat.mul_le_mul_left n9 ?_) hbytes; decide) hrc.1 hrc.2 (h := qa g N) hh fun H1 cA e1 z1 o1 hAr hNm => ?_
  have hsz : H.size = qa g N := hh
  have hcA : cA = g.2.2.1 3 := Option.some.inj (hNm.symm.trans (C.K.2 3 (g.2.2.1 3, .long) rfl).2)
  subst hcA
  refine kk H1 locs ls (qP_push hP hh (fun x hx => o1 x (by omega)) e1) ?_ (qS_push hS (by omega) (fun x hx => o1 x (by omega))) hl
  show H1.size = g.2.1 + (N + 1)
  rw [z1]
  unfold qa
  omega
theorem q_newq (C : qC g cc own nL p s m meth c) {n : Int32} {n9 index : Nat} (hcl : qw (.classLink own index RX5)) (hn : ¬ n < 0) (hN : n.toNatClampNeg = n9) (hbytes : n9 * 4 ≤ 536870912) (hrc : cells + 1 ≤ R.cells ∧ slots + n9 ≤ R.slots) (hdg : decode cc pc = .ok (.anewarray index, 3)) (kk : qR g (N + 1) (qZ g (N + 1)) nL p l e R s m args below meth c (cells + 1) (slots + n9) Q (va_up M N (.inl (g.2.2.1 4, n9, .inr (.inr (.inr (.inr fun _ => none)))))) (pc + 3) lv (.ref (qa g N) :: rest)) : qR g N (qZ g N) nL p l e R s m args below meth c cells slots Q M pc lv (.int n :: rest) := by
  intro H locs ls hP hh hS hl
  subst hN
  refine W.anew C.1 C.2.1 C.2.2.2.1 (C.w hcl) (va_AO.use C.I.2.2.2.2.2.2.2.2.2.2.2.2) rfl hdg rfl hn hbytes hrc.1 hrc.2 fun cA kA comp f1 f2 f3 f4 => ?_
  have hsz : H.size = qa g N := hh
  obtain ⟨kA', comp', k1, k2, k3, k4⟩ := (C.K.2 4 (g.2.2.1 4, .object RX5) rfl).2
  have hcA : cA = g.2.2.1 4 := Option.some.inj (f1.symm.trans k4)
  subst hcA
  generalize hH1 : H.push ({ cls := g.2.2.1 4, slots := Array.replicate n.toNatClampNeg .null, vm := .none } : Cell) = H1
  have z1 : H1.size = H.size + 1 := by rw [← hH1, Array.size_push]
  have e1 : H1[H.size]? = some (arrV (g.2.2.1 4) n.toNatClampNeg (fun _ => .null)) := by rw [← hH1, Array.getElem?_push_size, ← arrV_new]
  have o1 : ∀ q : Nat, q < H.size → H1[q]? = H[q]? := fun q hq => by rw [← hH1, Array.getElem?_push, if_neg (Nat.ne_of_lt hq)]
  rw [hsz] at e1 ⊢
  refine kk H1 locs ls (qP_push hP hh o1 ?_) ?_ (qS_push hS z1 o1) hl
  · show H1[qa g N]? = some (vp_cell _ _)
    rw [vp_cell_q]
    exact e1
  · show H1.size = g.2.1 + (N + 1)
    rw [z1, hsz]
    unfold qa
    omega
theorem q_oinit (C : qC g cc own nL p s m meth c) {idx a : Nat} (hl1 : qw (.methodLink own idx Lib.objectInit)) (hl2 : qw (.instanceMethod Lib.objectInit)) (hl3 : qw (.code Lib.objectInit ⟨#[0xb1]⟩ 1 none)) (hf : 1 ≤ R.frames) (hlo : (rest.map fun v => v.category).sum + 12 ≤ R.locals) (hdg : decode cc pc = .ok (.invokespecial idx, 3)) (kk : qR g N hz nL p l e R s m args below meth c cells slots Q M (pc + 3) lv rest) : qR g N hz nL p l e R s m args below meth c cells slots Q M pc lv (.ref a :: rest) := by
  intro H locs ls hP hh hS hl
  refine W.objInit C.1 C.2.1 C.2.2.2.1 (C.w hl1) (C.w hl2) (C.w hl3) rfl (hl.1.trans C.2.2.1.symm) rfl hdg hf (by show 2 * 0 + _ + 12 ≤ _; omega) ?_
  exact kk H locs ls hP hh hS hl
/-- the end of a maker -/
theorem q_kret (C : qC g cc own nL p s m meth c) {mc ms : Nat} {M1 : Nat → va_E} (hr : meth.sig.returnType = none) (hM : ∀ q, q < N → M q = M1 q) (h1 : cells ≤ mc) (h2 : slots ≤ ms) (hdg : decode cc pc = .ok (.return_, 1)) : qR g N hz nL p l e R s m args below meth c cells slots (MQ below (qQv g N hz M1) args s mc ms (qA g)) M pc lv [] := by
  intro H locs ls hP hh hS hl
  rw [qW_congr hM] at hP
  exact q_vret C hr h1 h2 hdg H locs ls hP hh hS hl
theorem q_name {M1 : Nat → va_E} (h : M1 = M) (kk : qR g N hz nL p l e R s m args below meth c cells slots Q M1 pc lv rest) : qR g N hz nL p l e R s m args below meth c cells slots Q M pc lv rest := h ▸ kk
theorem q_same {M1 : Nat → va_E} (h : ∀ q, q < N → M q = M1 q) (kk : qR g N hz nL p l e R s m args below meth c cells slots Q M1 pc lv rest) : qR g N hz nL p l e R s m args below meth c cells slots Q M pc lv rest :=
  fun H locs ls hP hh hS hl => kk H locs ls (by rw [← qW_congr h]; exact hP) hh hS hl
end QK
/-- the system as it is made -/
def S0c : qSt := fun o k => if (kd o).1 = 5 then (if k = 0 then 2 else if k = 3 then 1 else 0) else 0
def qmix (g : qG) (o : Nat) (M : Nat → va_E) : Nat → va_E := fun q => if q < o then M q else qmem g S0c q
theorem qmix_lo {g : qG} {o q : Nat} {M : Nat → va_E} (h : q < o) : qmix g o M q = M q := if_pos h
theorem qmix_hi {g : qG} {o q : Nat} {M : Nat → va_E} (h : o ≤ q) : qmix g o M q = qmem g S0c q := if_neg (by omega)
theorem S0c_z {o k n : Nat} (h : kd o = (k, n)) (hk : k ≠ 5) : S0c o = fun _ => 0 := by
  funext j
  unfold S0c
  rw [h]
  simp [hk]
theorem qz_10 {g : qG} {o n : Nat} (hk : kd o = (10, n)) : .inl (g.2.2.1 0, n, .inl fun _ => 0) = qmem g S0c o := by rw [qmem_10 hk, S0c_z hk (by decide)]
theorem qz_11 {g : qG} {o n : Nat} (hk : kd o = (11, n)) : .inl (g.2.2.1 1, n, .inl fun _ => 0) = qmem g S0c o := by rw [qmem_11 hk, S0c_z hk (by decide)]
theorem qz_12 {g : qG} {o n : Nat} (hk : kd o = (12, n)) : .inl (g.2.2.1 2, n, .inl fun _ => 0) = qmem g S0c o := by rw [qmem_12 hk, S0c_z hk (by decide)]
theorem qz_5 {g : qG} {o : Nat} (hk : kd o = (5, 0)) : .inr (5, [.int 2, .int 0, .int 0, .int 1, .ref (qa g (o + 1)), .ref (qa g (o + 2)), .ref (qa g (o + 3)), .ref (qa g (o + 4))]) = qmem g S0c o := by
  rw [qmem_o hk (by decide)]
  simp [qfs, qtm, S0c, hk]
theorem oiI : qw (.instanceMethod Lib.objectInit) := (qwi 72 (by decide +kernel) (by decide +kernel))
theorem oiC : qw (.code Lib.objectInit ⟨#[0xb1]⟩ 1 none) := (qwi 73 (by decide +kernel) (by decide +kernel))
theorem ac_int : qw (.arrayClass .int) := (qwi 127 (by decide +kernel) (by decide +kernel))
theorem ac_boolean : qw (.arrayClass .boolean) := (qwi 176 (by decide +kernel) (by decide +kernel))
theorem ac_char : qw (.arrayClass .char) := (qwi 90 (by decide +kernel) (by decide +kernel))
theorem ac_long : qw (.arrayClass .long) := (qwi 1247 (by decide +kernel) (by decide +kernel))
theorem ins_0 : qw (.instantiable RX0 3) := (qwi 178 (by decide +kernel) (by decide +kernel))
theorem ini_0 : qw (.initialized RX0) := (qwi 51 (by decide +kernel) (by decide +kernel))
theorem ins_1 : qw (.instantiable RX1 5) := (qwi 102 (by decide +kernel) (by decide +kernel))
theorem ini_1 : qw (.initialized RX1) := (qwi 49 (by decide +kernel) (by decide +kernel))
theorem ins_2 : qw (.instantiable RX2 4) := (qwi 214 (by decide +kernel) (by decide +kernel))
theorem ini_2 : qw (.initialized RX2) := (qwi 53 (by decide +kernel) (by decide +kernel))
theorem ins_3 : qw (.instantiable RX3 2) := (qwi 198 (by decide +kernel) (by decide +kernel))
theorem ini_3 : qw (.initialized RX3) := (qwi 52 (by decide +kernel) (by decide +kernel))
theorem ins_4 : qw (.instantiable RX4 2) := (qwi 75 (by decide +kernel) (by decide +kernel))
theorem ini_4 : qw (.initialized RX4) := (qwi 47 (by decide +kernel) (by decide +kernel))
theorem ins_5 : qw (.instantiable RX5 8) := (qwi 129 (by decide +kernel) (by decide +kernel))
theorem ini_5 : qw (.initialized RX5) := (qwi 50 (by decide +kernel) (by decide +kernel))
theorem ins_6 : qw (.instantiable RX6 1) := (qwi 92 (by decide +kernel) (by decide +kernel))
theorem ini_6 : qw (.initialized RX6) := (qwi 48 (by decide +kernel) (by decide +kernel))
theorem ins_7 : qw (.instantiable RX7 9) := (qwi 67 (by decide +kernel) (by decide +kernel))
theorem ini_7 : qw (.initialized RX7) := (qwi 46 (by decide +kernel) (by decide +kernel))
theorem ins_8 : qw (.instantiable RX8 22) := (qwi 921 (by decide +kernel) (by decide +kernel))
theorem ini_8 : qw (.initialized RX8) := (qwi 54 (by decide +kernel) (by decide +kernel))
theorem clk7_7 : qw (.classLink RX7 7 RX4) := (qwi 74 (by decide +kernel) (by decide +kernel))
theorem clk7_16 : qw (.classLink RX7 16 RX6) := (qwi 91 (by decide +kernel) (by decide +kernel))
theorem clk7_23 : qw (.classLink RX7 23 RX1) := (qwi 101 (by decide +kernel) (by decide +kernel))
theorem clk7_30 : qw (.classLink RX7 30 RX5) := (qwi 128 (by decide +kernel) (by decide +kernel))
theorem clk7_40 : qw (.classLink RX7 40 RX0) := (qwi 177 (by decide +kernel) (by decide +kernel))
theorem clk7_47 : qw (.classLink RX7 47 RX3) := (qwi 197 (by decide +kernel) (by decide +kernel))
theorem clk7_54 : qw (.classLink RX7 54 RX2) := (qwi 213 (by decide +kernel) (by decide +kernel))
theorem clk0_9 : qw (.classLink RX0 9 RX5) := (qwi 183 (by decide +kernel) (by decide +kernel))
theorem clk3_9 : qw (.classLink RX3 9 RX5) := (qwi 203 (by decide +kernel) (by decide +kernel))
theorem clkL_8 : qw (.classLink RL 8 RX7) := (qwi 66 (by decide +kernel) (by decide +kernel))
theorem clkL_95 : qw (.classLink RL 95 RX8) := (qwi 920 (by decide +kernel) (by decide +kernel))
section
variable {l : Launch} {g : qG} {p : Program} {e : Env} {s : State} {m : MethodId} {args : Array Value} {below : List Frame} {meth : Method} {c : Code}
abbrev rmX4_init : Room := { frames := 1, cells := 1, slots := 140, locals := 40 }
set_option maxRecDepth 100000 in
set_option maxHeartbeats 4000000 in
theorem kX4_init {l : Launch} {g : qG} (M : Nat → va_E) (e0 : M 1 = .inr (4, [.null, .int 0])) : Met l yX4_init [.code yX4_init cX4_init 1 none] rmX4_init (qPc g 2 (qZ g 2) M [.ref (qa g 1)]) (qQv g 3 (qZ g 3) (qmix g 1 M)) 1 140 (qA g) := by
  refine q_met (by decide) (Nat.le_of_ble_eq_true rfl) (fun p e s m args below meth c C hr hnm => ?_)
  have hin : meth.name = "<init>" := hnm
  have C : qC g cX4_init RX4 1 p s m meth c := C
  obtain ⟨M0, hM0⟩ : ∃ z, z = M := ⟨_, rfl⟩
  rw [← hM0] at e0
  have low0 : ∀ q, q < 1 → M0 q = M q := fun q _ => by rw [hM0]
  refine q_name hM0 ?_
  show qR g 2 (qZ g 2) 1 p l e rmX4_init s m args below meth c 0 0 (MQ below (qQv g 3 (qZ g 3) (qmix g 1 M)) args s 1 140 (qA g)) M0 0 [(0, .ref (qa g 1))] []
  refine q_aload_n C 0 dX4_init_0 rfl rfl ?_
  refine q_oinit C (qwi 79 (by decide +kernel) (by decide +kernel)) oiI oiC (Nat.le_of_ble_eq_true rfl) (Nat.le_of_ble_eq_true rfl) dX4_init_1 ?_
  refine q_aload_n C 0 dX4_init_4 rfl rfl ?_
  refine q_sipush (v := 140) C dX4_init_5 (by decide) ?_
  refine q_newa_c (n9 := 140) C ac_char (by decide) (by decide) (by decide) ⟨Nat.le_of_ble_eq_true rfl, Nat.le_of_ble_eq_true rfl⟩ dX4_init_8 ?_
  show qR g 3 (qZ g 3) 1 p l e rmX4_init s m args below meth c 1 140 (MQ below (qQv g 3 (qZ g 3) (qmix g 1 M)) args s 1 140 (qA g)) (va_up M0 2 (.inl (g.2.2.1 2, 140, .inl fun _ => 0))) 10 [(0, .ref (qa g 1))] (.ref (qa g 2) :: [.ref (qa g 1)])
  obtain ⟨N1, hN1⟩ : ∃ z, z = va_up M0 2 (.inl (g.2.2.1 2, 140, .inl fun _ => 0)) := ⟨_, rfl⟩
  refine q_name hN1 ?_
  have e0_1 : N1 1 = _ := (by rw [hN1]; exact va_up_ne _ _ (by omega) : N1 1 = M0 1).trans e0
  have e1_1 : N1 2 = .inl (g.2.2.1 2, 140, .inl fun _ => 0) := by rw [hN1]; exact va_up_self _ _ _
  have low_1 : ∀ q, q < 1 → N1 q = M q := fun q hq => (by rw [hN1]; exact va_up_ne _ _ (by omega) : N1 q = M0 q).trans (low0 q hq)
  refine q_putF (o := 1) (ci := 4) (k := 0) (fs := [.null, .int 0]) (v := .ref (qa g 2)) C (by omega) e0_1 (rfl : vwCl[4]? = some (RX4, TX4, 2)) (Nat.le_of_ble_eq_true rfl) (qwi 80 (by decide +kernel) (by decide +kernel)) (by decide +kernel) hin rfl (tyX4_ok 0 (Nat.le_of_ble_eq_true rfl)) rfl rfl (Nat.le_of_ble_eq_true rfl) dX4_init_10 ?_
  show qR g 3 (qZ g 3) 1 p l e rmX4_init s m args below meth c 1 140 (MQ below (qQv g 3 (qZ g 3) (qmix g 1 M)) args s 1 140 (qA g)) (va_up N1 1 (.inr (4, [.ref (qa g 2),.int 0]))) 13 [(0, .ref (qa g 1))] []
  obtain ⟨N2, hN2⟩ : ∃ z, z = va_up N1 1 (.inr (4, [.ref (qa g 2), .int 0])) := ⟨_, rfl⟩
  refine q_name hN2 ?_
  have e0_2 : N2 1 = .inr (4, [.ref (qa g 2), .int 0]) := by rw [hN2]; exact va_up_self _ _ _
  have e1_2 : N2 2 = _ := (by rw [hN2]; exact va_up_ne _ _ (by omega) : N2 2 = N1 2).trans e1_1
  have low_2 : ∀ q, q < 1 → N2 q = M q := fun q hq => (by rw [hN2]; exact va_up_ne _ _ (by omega) : N2 q = N1 q).trans (low_1 q hq)
  refine q_aload_n C 0 dX4_init_13 rfl rfl ?_
  refine q_iconst (v := 0) C dX4_init_14 (by decide) ?_
  refine q_put (o := 1) (ci := 4) (k := 1) (fs := [.ref (qa g 2), .int 0]) (v := .int 0) C (by omega) e0_2 (rfl : vwCl[4]? = some (RX4, TX4, 2)) (Nat.le_of_ble_eq_true rfl) (qwi 81 (by decide +kernel) (by decide +kernel)) (by decide +kernel) (tyX4_ok 1 (Nat.le_of_ble_eq_true rfl)) rfl rfl (Nat.le_of_ble_eq_true rfl) dX4_init_15 ?_
  show qR g 3 (qZ g 3) 1 p l e rmX4_init s m args below meth c 1 140 (MQ below (qQv g 3 (qZ g 3) (qmix g 1 M)) args s 1 140 (qA g)) (va_up N2 1 (.inr (4, [.ref (qa g 2),.int 0]))) 18 [(0, .ref (qa g 1))] []
  obtain ⟨N3, hN3⟩ : ∃ z, z = va_up N2 1 (.inr (4, [.ref (qa g 2), .int 0])) := ⟨_, rfl⟩
  refine q_name hN3 ?_
  have e0_3 : N3 1 = .inr (4, [.ref (qa g 2), .int 0]) := by rw [hN3]; exact va_up_self _ _ _
  have e1_3 : N3 2 = _ := (by rw [hN3]; exact va_up_ne _ _ (by omega) : N3 2 = N2 2).trans e1_2
  have low_3 : ∀ q, q < 1 → N3 q = M q := fun q hq => (by rw [hN3]; exact va_up_ne _ _ (by omega) : N3 q = N2 q).trans (low_2 q hq)
  refine q_kret C hr (fun q hq => ?_) (Nat.le_refl _) (Nat.le_refl _) dX4_init_18
  by_cases h : q < 1
  · rw [qmix_lo h, low_3 q h]
  · rw [qmix_hi (by omega)]
    rcases (show q = 1 ∨ q = 2 by omega) with h9 | h9
    · rw [h9, e0_3, qmem_o (kd_1) (by decide)]; simp [qfs, qtm, S0c_z (kd_1) (by decide)]
    · rw [h9, e1_3]; exact qz_12 (kd_2)
abbrev rmX6_init : Room := { frames := 1, cells := 0, slots := 0, locals := 40 }
set_option maxRecDepth 100000 in
set_option maxHeartbeats 4000000 in
theorem kX6_init {l : Launch} {g : qG} (M : Nat → va_E) (e0 : M 3 = .inr (6, [.int 0])) : Met l yX6_init [.code yX6_init cX6_init 1 none] rmX6_init (qPc g 4 (qZ g 4) M [.ref (qa g 3)]) (qQv g 4 (qZ g 4) (qmix g 3 M)) 0 0 (qA g) := by
  refine q_met (by decide) (Nat.le_of_ble_eq_true rfl) (fun p e s m args below meth c C hr hnm => ?_)
  have hin : meth.name = "<init>" := hnm
  have C : qC g cX6_init RX6 1 p s m meth c := C
  obtain ⟨M0, hM0⟩ : ∃ z, z = M := ⟨_, rfl⟩
  rw [← hM0] at e0
  have low0 : ∀ q, q < 3 → M0 q = M q := fun q _ => by rw [hM0]
  refine q_name hM0 ?_
  show qR g 4 (qZ g 4) 1 p l e rmX6_init s m args below meth c 0 0 (MQ below (qQv g 4 (qZ g 4) (qmix g 3 M)) args s 0 0 (qA g)) M0 0 [(0, .ref (qa g 3))] []
  refine q_aload_n C 0 dX6_init_0 rfl rfl ?_
  refine q_oinit C (qwi 96 (by decide +kernel) (by decide +kernel)) oiI oiC (Nat.le_of_ble_eq_true rfl) (Nat.le_of_ble_eq_true rfl) dX6_init_1 ?_
  refine q_aload_n C 0 dX6_init_4 rfl rfl ?_
  refine q_iconst (v := 0) C dX6_init_5 (by decide) ?_
  refine q_put (o := 3) (ci := 6) (k := 0) (fs := [.int 0]) (v := .int 0) C (by omega) e0 (rfl : vwCl[6]? = some (RX6, TX6, 1)) (Nat.le_of_ble_eq_true rfl) (qwi 97 (by decide +kernel) (by decide +kernel)) (by decide +kernel) (tyX6_ok 0 (Nat.le_of_ble_eq_true rfl)) rfl rfl (Nat.le_of_ble_eq_true rfl) dX6_init_6 ?_
  show qR g 4 (qZ g 4) 1 p l e rmX6_init s m args below meth c 0 0 (MQ below (qQv g 4 (qZ g 4) (qmix g 3 M)) args s 0 0 (qA g)) (va_up M0 3 (.inr (6, [.int 0]))) 9 [(0, .ref (qa g 3))] []
  obtain ⟨N1, hN1⟩ : ∃ z, z = va_up M0 3 (.inr (6, [.int 0])) := ⟨_, rfl⟩
  refine q_name hN1 ?_
  have e0_1 : N1 3 = .inr (6, [.int 0]) := by rw [hN1]; exact va_up_self _ _ _
  have low_1 : ∀ q, q < 3 → N1 q = M q := fun q hq => (by rw [hN1]; exact va_up_ne _ _ (by omega) : N1 q = M0 q).trans (low0 q hq)
  refine q_kret C hr (fun q hq => ?_) (Nat.le_refl _) (Nat.le_refl _) dX6_init_9
  by_cases h : q < 3
  · rw [qmix_lo h, low_1 q h]
  · rw [qmix_hi (by omega)]
    have h9 : q = 3 := by omega
    rw [h9, e0_1, qmem_o (kd_3) (by decide)]; simp [qfs, qtm, S0c_z (kd_3) (by decide)]
abbrev rmX1_init : Room := { frames := 1, cells := 3, slots := 420, locals := 40 }
set_option maxRecDepth 100000 in
set_option maxHeartbeats 4000000 in
theorem kX1_init {l : Launch} {g : qG} (M : Nat → va_E) (e0 : M 4 = .inr (1, [.int 0, .null, .null, .null, .int 0])) : Met l yX1_init [.code yX1_init cX1_init 1 none] rmX1_init (qPc g 5 (qZ g 5) M [.ref (qa g 4)]) (qQv g 8 (qZ g 8) (qmix g 4 M)) 3 420 (qA g) := by
  refine q_met (by decide) (Nat.le_of_ble_eq_true rfl) (fun p e s m args below meth c C hr hnm => ?_)
  have hin : meth.name = "<init>" := hnm
  have C : qC g cX1_init RX1 1 p s m meth c := C
  obtain ⟨M0, hM0⟩ : ∃ z, z = M := ⟨_, rfl⟩
  rw [← hM0] at e0
  have low0 : ∀ q, q < 4 → M0 q = M q := fun q _ => by rw [hM0]
  refine q_name hM0 ?_
  show qR g 5 (qZ g 5) 1 p l e rmX1_init s m args below meth c 0 0 (MQ below (qQv g 8 (qZ g 8) (qmix g 4 M)) args s 3 420 (qA g)) M0 0 [(0, .ref (qa g 4))] []
  refine q_aload_n C 0 dX1_init_0 rfl rfl ?_
  refine q_oinit C (qwi 106 (by decide +kernel) (by decide +kernel)) oiI oiC (Nat.le_of_ble_eq_true rfl) (Nat.le_of_ble_eq_true rfl) dX1_init_1 ?_
  refine q_aload_n C 0 dX1_init_4 rfl rfl ?_
  refine q_iconst (v := 0) C dX1_init_5 (by decide) ?_
  refine q_put (o := 4) (ci := 1) (k := 0) (fs := [.int 0, .null, .null, .null, .int 0]) (v := .int 0) C (by omega) e0 (rfl : vwCl[1]? = some (RX1, TX1, 5)) (Nat.le_of_ble_eq_true rfl) (qwi 107 (by decide +kernel) (by decide +kernel)) (by decide +kernel) (tyX1_ok 0 (Nat.le_of_ble_eq_true rfl)) rfl rfl (Nat.le_of_ble_eq_true rfl) dX1_init_6 ?_
  show qR g 5 (qZ g 5) 1 p l e rmX1_init s m args below meth c 0 0 (MQ below (qQv g 8 (qZ g 8) (qmix g 4 M)) args s 3 420 (qA g)) (va_up M0 4 (.inr (1, [.int 0,.null,.null,.null,.int 0]))) 9 [(0, .ref (qa g 4))] []
  obtain ⟨N1, hN1⟩ : ∃ z, z = va_up M0 4 (.inr (1, [.int 0, .null, .null, .null, .int 0])) := ⟨_, rfl⟩
  refine q_name hN1 ?_
  have e0_1 : N1 4 = .inr (1, [.int 0, .null, .null, .null, .int 0]) := by rw [hN1]; exact va_up_self _ _ _
  have low_1 : ∀ q, q < 4 → N1 q = M q := fun q hq => (by rw [hN1]; exact va_up_ne _ _ (by omega) : N1 q = M0 q).trans (low0 q hq)
  refine q_aload_n C 0 dX1_init_9 rfl rfl ?_
  refine q_sipush (v := 140) C dX1_init_10 (by decide) ?_
  refine q_newa_i (n9 := 140) C ac_int (by decide) (by decide) (by decide) ⟨Nat.le_of_ble_eq_true rfl, Nat.le_of_ble_eq_true rfl⟩ dX1_init_13 ?_
  show qR g 6 (qZ g 6) 1 p l e rmX1_init s m args below meth c 1 140 (MQ below (qQv g 8 (qZ g 8) (qmix g 4 M)) args s 3 420 (qA g)) (va_up N1 5 (.inl (g.2.2.1 0, 140, .inl fun _ => 0))) 15 [(0, .ref (qa g 4))] (.ref (qa g 5) :: [.ref (qa g 4)])
  obtain ⟨N2, hN2⟩ : ∃ z, z = va_up N1 5 (.inl (g.2.2.1 0, 140, .inl fun _ => 0)) := ⟨_, rfl⟩
  refine q_name hN2 ?_
  have e0_2 : N2 4 = _ := (by rw [hN2]; exact va_up_ne _ _ (by omega) : N2 4 = N1 4).trans e0_1
  have e1_2 : N2 5 = .inl (g.2.2.1 0, 140, .inl fun _ => 0) := by rw [hN2]; exact va_up_self _ _ _
  have low_2 : ∀ q, q < 4 → N2 q = M q := fun q hq => (by rw [hN2]; exact va_up_ne _ _ (by omega) : N2 q = N1 q).trans (low_1 q hq)
  refine q_putF (o := 4) (ci := 1) (k := 1) (fs := [.int 0, .null, .null, .null, .int 0]) (v := .ref (qa g 5)) C (by omega) e0_2 (rfl : vwCl[1]? = some (RX1, TX1, 5)) (Nat.le_of_ble_eq_true rfl) (qwi 109 (by decide +kernel) (by decide +kernel)) (by decide +kernel) hin rfl (tyX1_ok 1 (Nat.le_of_ble_eq_true rfl)) rfl rfl (Nat.le_of_ble_eq_true rfl) dX1_init_15 ?_
  show qR g 6 (qZ g 6) 1 p l e rmX1_init s m args below meth c 1 140 (MQ below (qQv g 8 (qZ g 8) (qmix g 4 M)) args s 3 420 (qA g)) (va_up N2 4 (.inr (1, [.int 0,.ref (qa g 5),.null,.null,.int 0]))) 18 [(0, .ref (qa g 4))] []
  obtain ⟨N3, hN3⟩ : ∃ z, z = va_up N2 4 (.inr (1, [.int 0, .ref (qa g 5), .null, .null, .int 0])) := ⟨_, rfl⟩
  refine q_name hN3 ?_
  have e0_3 : N3 4 = .inr (1, [.int 0, .ref (qa g 5), .null, .null, .int 0]) := by rw [hN3]; exact va_up_self _ _ _
  have e1_3 : N3 5 = _ := (by rw [hN3]; exact va_up_ne _ _ (by omega) : N3 5 = N2 5).trans e1_2
  have low_3 : ∀ q, q < 4 → N3 q = M q := fun q hq => (by rw [hN3]; exact va_up_ne _ _ (by omega) : N3 q = N2 q).trans (low_2 q hq)
  refine q_aload_n C 0 dX1_init_18 rfl rfl ?_
  refine q_sipush (v := 140) C dX1_init_19 (by decide) ?_
  refine q_newa_i (n9 := 140) C ac_int (by decide) (by decide) (by decide) ⟨Nat.le_of_ble_eq_true rfl, Nat.le_of_ble_eq_true rfl⟩ dX1_init_22 ?_
  show qR g 7 (qZ g 7) 1 p l e rmX1_init s m args below meth c 2 280 (MQ below (qQv g 8 (qZ g 8) (qmix g 4 M)) args s 3 420 (qA g)) (va_up N3 6 (.inl (g.2.2.1 0, 140, .inl fun _ => 0))) 24 [(0, .ref (qa g 4))] (.ref (qa g 6) :: [.ref (qa g 4)])
  obtain ⟨N4, hN4⟩ : ∃ z, z = va_up N3 6 (.inl (g.2.2.1 0, 140, .inl fun _ => 0)) := ⟨_, rfl⟩
  refine q_name hN4 ?_
  have e0_4 : N4 4 = _ := (by rw [hN4]; exact va_up_ne _ _ (by omega) : N4 4 = N3 4).trans e0_3
  have e1_4 : N4 5 = _ := (by rw [hN4]; exact va_up_ne _ _ (by omega) : N4 5 = N3 5).trans e1_3
  have e2_4 : N4 6 = .inl (g.2.2.1 0, 140, .inl fun _ => 0) := by rw [hN4]; exact va_up_self _ _ _
  have low_4 : ∀ q, q < 4 → N4 q = M q := fun q hq => (by rw [hN4]; exact va_up_ne _ _ (by omega) : N4 q = N3 q).trans (low_3 q hq)
  refine q_putF (o := 4) (ci := 1) (k := 2) (fs := [.int 0, .ref (qa g 5), .null, .null, .int 0]) (v := .ref (qa g 6)) C (by omega) e0_4 (rfl : vwCl[1]? = some (RX1, TX1, 5)) (Nat.le_of_ble_eq_true rfl) (qwi 111 (by decide +kernel) (by decide +kernel)) (by decide +kernel) hin rfl (tyX1_ok 2 (Nat.le_of_ble_eq_true rfl)) rfl rfl (Nat.le_of_ble_eq_true rfl) dX1_init_24 ?_
  show qR g 7 (qZ g 7) 1 p l e rmX1_init s m args below meth c 2 280 (MQ below (qQv g 8 (qZ g 8) (qmix g 4 M)) args s 3 420 (qA g)) (va_up N4 4 (.inr (1, [.int 0,.ref (qa g 5),.ref (qa g 6),.null,.int 0]))) 27 [(0, .ref (qa g 4))] []
  obtain ⟨N5, hN5⟩ : ∃ z, z = va_up N4 4 (.inr (1, [.int 0, .ref (qa g 5), .ref (qa g 6), .null, .int 0])) := ⟨_, rfl⟩
  refine q_name hN5 ?_
  have e0_5 : N5 4 = .inr (1, [.int 0, .ref (qa g 5), .ref (qa g 6), .null, .int 0]) := by rw [hN5]; exact va_up_self _ _ _
  have e1_5 : N5 5 = _ := (by rw [hN5]; exact va_up_ne _ _ (by omega) : N5 5 = N4 5).trans e1_4
  have e2_5 : N5 6 = _ := (by rw [hN5]; exact va_up_ne _ _ (by omega) : N5 6 = N4 6).trans e2_4
  have low_5 : ∀ q, q < 4 → N5 q = M q := fun q hq => (by rw [hN5]; exact va_up_ne _ _ (by omega) : N5 q = N4 q).trans (low_4 q hq)
  refine q_aload_n C 0 dX1_init_27 rfl rfl ?_
  refine q_sipush (v := 140) C dX1_init_28 (by decide) ?_
  refine q_newa_i (n9 := 140) C ac_int (by decide) (by decide) (by decide) ⟨Nat.le_of_ble_eq_true rfl, Nat.le_of_ble_eq_true rfl⟩ dX1_init_31 ?_
  show qR g 8 (qZ g 8) 1 p l e rmX1_init s m args below meth c 3 420 (MQ below (qQv g 8 (qZ g 8) (qmix g 4 M)) args s 3 420 (qA g)) (va_up N5 7 (.inl (g.2.2.1 0, 140, .inl fun _ => 0))) 33 [(0, .ref (qa g 4))] (.ref (qa g 7) :: [.ref (qa g 4)])
  obtain ⟨N6, hN6⟩ : ∃ z, z = va_up N5 7 (.inl (g.2.2.1 0, 140, .inl fun _ => 0)) := ⟨_, rfl⟩
  refine q_name hN6 ?_
  have e0_6 : N6 4 = _ := (by rw [hN6]; exact va_up_ne _ _ (by omega) : N6 4 = N5 4).trans e0_5
  have e1_6 : N6 5 = _ := (by rw [hN6]; exact va_up_ne _ _ (by omega) : N6 5 = N5 5).trans e1_5
  have e2_6 : N6 6 = _ := (by rw [hN6]; exact va_up_ne _ _ (by omega) : N6 6 = N5 6).trans e2_5
  have e3_6 : N6 7 = .inl (g.2.2.1 0, 140, .inl fun _ => 0) := by rw [hN6]; exact va_up_self _ _ _
  have low_6 : ∀ q, q < 4 → N6 q = M q := fun q hq => (by rw [hN6]; exact va_up_ne _ _ (by omega) : N6 q = N5 q).trans (low_5 q hq)
  refine q_putF (o := 4) (ci := 1) (k := 3) (fs := [.int 0, .ref (qa g 5), .ref (qa g 6), .null, .int 0]) (v := .ref (qa g 7)) C (by omega) e0_6 (rfl : vwCl[1]? = some (RX1, TX1, 5)) (Nat.le_of_ble_eq_true rfl) (qwi 113 (by decide +kernel) (by decide +kernel)) (by decide +kernel) hin rfl (tyX1_ok 3 (Nat.le_of_ble_eq_true rfl)) rfl rfl (Nat.le_of_ble_eq_true rfl) dX1_init_33 ?_
  show qR g 8 (qZ g 8) 1 p l e rmX1_init s m args below meth c 3 420 (MQ below (qQv g 8 (qZ g 8) (qmix g 4 M)) args s 3 420 (qA g)) (va_up N6 4 (.inr (1, [.int 0,.ref (qa g 5),.ref (qa g 6),.ref (qa g 7),.int 0]))) 36 [(0, .ref (qa g 4))] []
  obtain ⟨N7, hN7⟩ : ∃ z, z = va_up N6 4 (.inr (1, [.int 0, .ref (qa g 5), .ref (qa g 6), .ref (qa g 7), .int 0])) := ⟨_, rfl⟩
  refine q_name hN7 ?_
  have e0_7 : N7 4 = .inr (1, [.int 0, .ref (qa g 5), .ref (qa g 6), .ref (qa g 7), .int 0]) := by rw [hN7]; exact va_up_self _ _ _
  have e1_7 : N7 5 = _ := (by rw [hN7]; exact va_up_ne _ _ (by omega) : N7 5 = N6 5).trans e1_6
  have e2_7 : N7 6 = _ := (by rw [hN7]; exact va_up_ne _ _ (by omega) : N7 6 = N6 6).trans e2_6
  have e3_7 : N7 7 = _ := (by rw [hN7]; exact va_up_ne _ _ (by omega) : N7 7 = N6 7).trans e3_6
  have low_7 : ∀ q, q < 4 → N7 q = M q := fun q hq => (by rw [hN7]; exact va_up_ne _ _ (by omega) : N7 q = N6 q).trans (low_6 q hq)
  refine q_aload_n C 0 dX1_init_36 rfl rfl ?_
  refine q_iconst (v := 0) C dX1_init_37 (by decide) ?_
  refine q_put (o := 4) (ci := 1) (k := 4) (fs := [.int 0, .ref (qa g 5), .ref (qa g 6), .ref (qa g 7), .int 0]) (v := .int 0) C (by omega) e0_7 (rfl : vwCl[1]? = some (RX1, TX1, 5)) (Nat.le_of_ble_eq_true rfl) (qwi 115 (by decide +kernel) (by decide +kernel)) (by decide +kernel) (tyX1_ok 4 (Nat.le_of_ble_eq_true rfl)) rfl rfl (Nat.le_of_ble_eq_true rfl) dX1_init_38 ?_
  show qR g 8 (qZ g 8) 1 p l e rmX1_init s m args below meth c 3 420 (MQ below (qQv g 8 (qZ g 8) (qmix g 4 M)) args s 3 420 (qA g)) (va_up N7 4 (.inr (1, [.int 0,.ref (qa g 5),.ref (qa g 6),.ref (qa g 7),.int 0]))) 41 [(0, .ref (qa g 4))] []
  obtain ⟨N8, hN8⟩ : ∃ z, z = va_up N7 4 (.inr (1, [.int 0, .ref (qa g 5), .ref (qa g 6), .ref (qa g 7), .int 0])) := ⟨_, rfl⟩
  refine q_name hN8 ?_
  have e0_8 : N8 4 = .inr (1, [.int 0, .ref (qa g 5), .ref (qa g 6), .ref (qa g 7), .int 0]) := by rw [hN8]; exact va_up_self _ _ _
  have e1_8 : N8 5 = _ := (by rw [hN8]; exact va_up_ne _ _ (by omega) : N8 5 = N7 5).trans e1_7
  have e2_8 : N8 6 = _ := (by rw [hN8]; exact va_up_ne _ _ (by omega) : N8 6 = N7 6).trans e2_7
  have e3_8 : N8 7 = _ := (by rw [hN8]; exact va_up_ne _ _ (by omega) : N8 7 = N7 7).trans e3_7
  have low_8 : ∀ q, q < 4 → N8 q = M q := fun q hq => (by rw [hN8]; exact va_up_ne _ _ (by omega) : N8 q = N7 q).trans (low_7 q hq)
  refine q_kret C hr (fun q hq => ?_) (Nat.le_refl _) (Nat.le_refl _) dX1_init_41
  by_cases h : q < 4
  · rw [qmix_lo h, low_8 q h]
  · rw [qmix_hi (by omega)]
    rcases (show q = 4 ∨ q = 5 ∨ q = 6 ∨ q = 7 by omega) with h9 | h9 | h9 | h9
    · rw [h9, e0_8, qmem_o (kd_4) (by decide)]; simp [qfs, qtm, S0c_z (kd_4) (by decide)]
    · rw [h9, e1_8]; exact qz_10 (kd_5)
    · rw [h9, e2_8]; exact qz_10 (kd_6)
    · rw [h9, e3_8]; exact qz_10 (kd_7)
abbrev rmX5_init : Room := { frames := 1, cells := 4, slots := 84, locals := 40 }
set_option maxRecDepth 100000 in
set_option maxHeartbeats 4000000 in
theorem kX5_init {l : Launch} {g : qG} (o : Nat) (ho : tyT o) (M : Nat → va_E) (e0 : M o = .inr (5, [.int 0, .int 0, .int 0, .int 0, .null, .null, .null, .null])) : Met l yX5_init [.code yX5_init cX5_init 1 none] rmX5_init (qPc g (o + 1) (qZ g (o + 1)) M [.ref (qa g o)]) (qQv g (o + 5) (qZ g (o + 5)) (qmix g o M)) 4 84 (qA g) := by
  refine q_met (by decide) (Nat.le_of_ble_eq_true rfl) (fun p e s m args below meth c C hr hnm => ?_)
  have hin : meth.name = "<init>" := hnm
  have C : qC g cX5_init RX5 1 p s m meth c := C
  obtain ⟨M0, hM0⟩ : ∃ z, z = M := ⟨_, rfl⟩
  rw [← hM0] at e0
  have low0 : ∀ q, q < o → M0 q = M q := fun q _ => by rw [hM0]
  refine q_name hM0 ?_
  show qR g (o + 1) (qZ g (o + 1)) 1 p l e rmX5_init s m args below meth c 0 0 (MQ below (qQv g (o + 5) (qZ g (o + 5)) (qmix g o M)) args s 4 84 (qA g)) M0 0 [(0, .ref (qa g o))] []
  refine q_aload_n C 0 dX5_init_0 rfl rfl ?_
  refine q_oinit C (qwi 133 (by decide +kernel) (by decide +kernel)) oiI oiC (Nat.le_of_ble_eq_true rfl) (Nat.le_of_ble_eq_true rfl) dX5_init_1 ?_
  refine q_aload_n C 0 dX5_init_4 rfl rfl ?_
  refine q_iconst (v := 2) C dX5_init_5 (by decide) ?_
  refine q_put (o := o) (ci := 5) (k := 0) (fs := [.int 0, .int 0, .int 0, .int 0, .null, .null, .null, .null]) (v := .int 2) C (by omega) e0 (rfl : vwCl[5]? = some (RX5, TX5, 8)) (Nat.le_of_ble_eq_true rfl) (qwi 134 (by decide +kernel) (by decide +kernel)) (by decide +kernel) (tyX5_ok 0 (Nat.le_of_ble_eq_true rfl)) rfl rfl (Nat.le_of_ble_eq_true rfl) dX5_init_6 ?_
  show qR g (o + 1) (qZ g (o + 1)) 1 p l e rmX5_init s m args below meth c 0 0 (MQ below (qQv g (o + 5) (qZ g (o + 5)) (qmix g o M)) args s 4 84 (qA g)) (va_up M0 o (.inr (5, [.int 2,.int 0,.int 0,.int 0,.null,.null,.null,.null]))) 9 [(0, .ref (qa g o))] []
  obtain ⟨N1, hN1⟩ : ∃ z, z = va_up M0 o (.inr (5, [.int 2, .int 0, .int 0, .int 0, .null, .null, .null, .null])) := ⟨_, rfl⟩
  refine q_name hN1 ?_
  have e0_1 : N1 o = .inr (5, [.int 2, .int 0, .int 0, .int 0, .null, .null, .null, .null]) := by rw [hN1]; exact va_up_self _ _ _
  have low_1 : ∀ q, q < o → N1 q = M q := fun q hq => (by rw [hN1]; exact va_up_ne _ _ (by omega) : N1 q = M0 q).trans (low0 q hq)
  refine q_aload_n C 0 dX5_init_9 rfl rfl ?_
  refine q_iconst (v := 0) C dX5_init_10 (by decide) ?_
  refine q_put (o := o) (ci := 5) (k := 1) (fs := [.int 2, .int 0, .int 0, .int 0, .null, .null, .null, .null]) (v := .int 0) C (by omega) e0_1 (rfl : vwCl[5]? = some (RX5, TX5, 8)) (Nat.le_of_ble_eq_true rfl) (qwi 137 (by decide +kernel) (by decide +kernel)) (by decide +kernel) (tyX5_ok 1 (Nat.le_of_ble_eq_true rfl)) rfl rfl (Nat.le_of_ble_eq_true rfl) dX5_init_11 ?_
  show qR g (o + 1) (qZ g (o + 1)) 1 p l e rmX5_init s m args below meth c 0 0 (MQ below (qQv g (o + 5) (qZ g (o + 5)) (qmix g o M)) args s 4 84 (qA g)) (va_up N1 o (.inr (5, [.int 2,.int 0,.int 0,.int 0,.null,.null,.null,.null]))) 14 [(0, .ref (qa g o))] []
  obtain ⟨N2, hN2⟩ : ∃ z, z = va_up N1 o (.inr (5, [.int 2, .int 0, .int 0, .int 0, .null, .null, .null, .null])) := ⟨_, rfl⟩
  refine q_name hN2 ?_
  have e0_2 : N2 o = .inr (5, [.int 2, .int 0, .int 0, .int 0, .null, .null, .null, .null]) := by rw [hN2]; exact va_up_self _ _ _
  have low_2 : ∀ q, q < o → N2 q = M q := fun q hq => (by rw [hN2]; exact va_up_ne _ _ (by omega) : N2 q = N1 q).trans (low_1 q hq)
  refine q_aload_n C 0 dX5_init_14 rfl rfl ?_
  refine q_iconst (v := 0) C dX5_init_15 (by decide) ?_
  refine q_put (o := o) (ci := 5) (k := 2) (fs := [.int 2, .int 0, .int 0, .int 0, .null, .null, .null, .null]) (v := .int 0) C (by omega) e0_2 (rfl : vwCl[5]? = some (RX5, TX5, 8)) (Nat.le_of_ble_eq_true rfl) (qwi 141 (by decide +kernel) (by decide +kernel)) (by decide +kernel) (tyX5_ok 2 (Nat.le_of_ble_eq_true rfl)) rfl rfl (Nat.le_of_ble_eq_true rfl) dX5_init_16 ?_
  show qR g (o + 1) (qZ g (o + 1)) 1 p l e rmX5_init s m args below meth c 0 0 (MQ below (qQv g (o + 5) (qZ g (o + 5)) (qmix g o M)) args s 4 84 (qA g)) (va_up N2 o (.inr (5, [.int 2,.int 0,.int 0,.int 0,.null,.null,.null,.null]))) 19 [(0, .ref (qa g o))] []
  obtain ⟨N3, hN3⟩ : ∃ z, z = va_up N2 o (.inr (5, [.int 2, .int 0, .int 0, .int 0, .null, .null, .null, .null])) := ⟨_, rfl⟩
  refine q_name hN3 ?_
  have e0_3 : N3 o = .inr (5, [.int 2, .int 0, .int 0, .int 0, .null, .null, .null, .null]) := by rw [hN3]; exact va_up_self _ _ _
  have low_3 : ∀ q, q < o → N3 q = M q := fun q hq => (by rw [hN3]; exact va_up_ne _ _ (by omega) : N3 q = N2 q).trans (low_2 q hq)
  refine q_aload_n C 0 dX5_init_19 rfl rfl ?_
  refine q_iconst (v := 1) C dX5_init_20 (by decide) ?_
  refine q_put (o := o) (ci := 5) (k := 3) (fs := [.int 2, .int 0, .int 0, .int 0, .null, .null, .null, .null]) (v := .int 1) C (by omega) e0_3 (rfl : vwCl[5]? = some (RX5, TX5, 8)) (Nat.le_of_ble_eq_true rfl) (qwi 144 (by decide +kernel) (by decide +kernel)) (by decide +kernel) (tyX5_ok 3 (Nat.le_of_ble_eq_true rfl)) rfl rfl (Nat.le_of_ble_eq_true rfl) dX5_init_21 ?_
  show qR g (o + 1) (qZ g (o + 1)) 1 p l e rmX5_init s m args below meth c 0 0 (MQ below (qQv g (o + 5) (qZ g (o + 5)) (qmix g o M)) args s 4 84 (qA g)) (va_up N3 o (.inr (5, [.int 2,.int 0,.int 0,.int 1,.null,.null,.null,.null]))) 24 [(0, .ref (qa g o))] []
  obtain ⟨N4, hN4⟩ : ∃ z, z = va_up N3 o (.inr (5, [.int 2, .int 0, .int 0, .int 1, .null, .null, .null, .null])) := ⟨_, rfl⟩
  refine q_name hN4 ?_
  have e0_4 : N4 o = .inr (5, [.int 2, .int 0, .int 0, .int 1, .null, .null, .null, .null]) := by rw [hN4]; exact va_up_self _ _ _
  have low_4 : ∀ q, q < o → N4 q = M q := fun q hq => (by rw [hN4]; exact va_up_ne _ _ (by omega) : N4 q = N3 q).trans (low_3 q hq)
  refine q_aload_n C 0 dX5_init_24 rfl rfl ?_
  refine q_bipush (v := 21) C dX5_init_25 (by decide) ?_
  refine q_newa_i (n9 := 21) C ac_int (by decide) (by decide) (by decide) ⟨Nat.le_of_ble_eq_true rfl, Nat.le_of_ble_eq_true rfl⟩ dX5_init_27 ?_
  show qR g (o + 2) (qZ g (o + 2)) 1 p l e rmX5_init s m args below meth c 1 21 (MQ below (qQv g (o + 5) (qZ g (o + 5)) (qmix g o M)) args s 4 84 (qA g)) (va_up N4 (o + 1) (.inl (g.2.2.1 0, 21, .inl fun _ => 0))) 29 [(0, .ref (qa g o))] (.ref (qa g (o + 1)) :: [.ref (qa g o)])
  obtain ⟨N5, hN5⟩ : ∃ z, z = va_up N4 (o + 1) (.inl (g.2.2.1 0, 21, .inl fun _ => 0)) := ⟨_, rfl⟩
  refine q_name hN5 ?_
  have e0_5 : N5 o = _ := (by rw [hN5]; exact va_up_ne _ _ (by omega) : N5 o = N4 o).trans e0_4
  have e1_5 : N5 (o + 1) = .inl (g.2.2.1 0, 21, .inl fun _ => 0) := by rw [hN5]; exact va_up_self _ _ _
  have low_5 : ∀ q, q < o → N5 q = M q := fun q hq => (by rw [hN5]; exact va_up_ne _ _ (by omega) : N5 q = N4 q).trans (low_4 q hq)
  refine q_putF (o := o) (ci := 5) (k := 4) (fs := [.int 2, .int 0, .int 0, .int 1, .null, .null, .null, .null]) (v := .ref (qa g (o + 1))) C (by omega) e0_5 (rfl : vwCl[5]? = some (RX5, TX5, 8)) (Nat.le_of_ble_eq_true rfl) (qwi 147 (by decide +kernel) (by decide +kernel)) (by decide +kernel) hin rfl (tyX5_ok 4 (Nat.le_of_ble_eq_true rfl)) rfl rfl (Nat.le_of_ble_eq_true rfl) dX5_init_29 ?_
  show qR g (o + 2) (qZ g (o + 2)) 1 p l e rmX5_init s m args below meth c 1 21 (MQ below (qQv g (o + 5) (qZ g (o + 5)) (qmix g o M)) args s 4 84 (qA g)) (va_up N5 o (.inr (5, [.int 2,.int 0,.int 0,.int 1,.ref (qa g (o + 1)),.null,.null,.null]))) 32 [(0, .ref (qa g o))] []
  obtain ⟨N6, hN6⟩ : ∃ z, z = va_up N5 o (.inr (5, [.int 2, .int 0, .int 0, .int 1, .ref (qa g (o + 1)), .null, .null, .null])) := ⟨_, rfl⟩
  refine q_name hN6 ?_
  have e0_6 : N6 o = .inr (5, [.int 2, .int 0, .int 0, .int 1, .ref (qa g (o + 1)), .null, .null, .null]) := by rw [hN6]; exact va_up_self _ _ _
  have e1_6 : N6 (o + 1) = _ := (by rw [hN6]; exact va_up_ne _ _ (by omega) : N6 (o + 1) = N5 (o + 1)).trans e1_5
  have low_6 : ∀ q, q < o → N6 q = M q := fun q hq => (by rw [hN6]; exact va_up_ne _ _ (by omega) : N6 q = N5 q).trans (low_5 q hq)
  refine q_aload_n C 0 dX5_init_32 rfl rfl ?_
  refine q_bipush (v := 21) C dX5_init_33 (by decide) ?_
  refine q_newa_i (n9 := 21) C ac_int (by decide) (by decide) (by decide) ⟨Nat.le_of_ble_eq_true rfl, Nat.le_of_ble_eq_true rfl⟩ dX5_init_35 ?_
  show qR g (o + 3) (qZ g (o + 3)) 1 p l e rmX5_init s m args below meth c 2 42 (MQ below (qQv g (o + 5) (qZ g (o + 5)) (qmix g o M)) args s 4 84 (qA g)) (va_up N6 (o + 2) (.inl (g.2.2.1 0, 21, .inl fun _ => 0))) 37 [(0, .ref (qa g o))] (.ref (qa g (o + 2)) :: [.ref (qa g o)])
  obtain ⟨N7, hN7⟩ : ∃ z, z = va_up N6 (o + 2) (.inl (g.2.2.1 0, 21, .inl fun _ => 0)) := ⟨_, rfl⟩
  refine q_name hN7 ?_
  have e0_7 : N7 o = _ := (by rw [hN7]; exact va_up_ne _ _ (by omega) : N7 o = N6 o).trans e0_6
  have e1_7 : N7 (o + 1) = _ := (by rw [hN7]; exact va_up_ne _ _ (by omega) : N7 (o + 1) = N6 (o + 1)).trans e1_6
  have e2_7 : N7 (o + 2) = .inl (g.2.2.1 0, 21, .inl fun _ => 0) := by rw [hN7]; exact va_up_self _ _ _
  have low_7 : ∀ q, q < o → N7 q = M q := fun q hq => (by rw [hN7]; exact va_up_ne _ _ (by omega) : N7 q = N6 q).trans (low_6 q hq)
  refine q_putF (o := o) (ci := 5) (k := 5) (fs := [.int 2, .int 0, .int 0, .int 1, .ref (qa g (o + 1)), .null, .null, .null]) (v := .ref (qa g (o + 2))) C (by omega) e0_7 (rfl : vwCl[5]? = some (RX5, TX5, 8)) (Nat.le_of_ble_eq_true rfl) (qwi 150 (by decide +kernel) (by decide +kernel)) (by decide +kernel) hin rfl (tyX5_ok 5 (Nat.le_of_ble_eq_true rfl)) rfl rfl (Nat.le_of_ble_eq_true rfl) dX5_init_37 ?_
  show qR g (o + 3) (qZ g (o + 3)) 1 p l e rmX5_init s m args below meth c 2 42 (MQ below (qQv g (o + 5) (qZ g (o + 5)) (qmix g o M)) args s 4 84 (qA g)) (va_up N7 o (.inr (5, [.int 2,.int 0,.int 0,.int 1,.ref (qa g (o + 1)),.ref (qa g (o + 2)),.null,.null]))) 40 [(0, .ref (qa g o))] []
  obtain ⟨N8, hN8⟩ : ∃ z, z = va_up N7 o (.inr (5, [.int 2, .int 0, .int 0, .int 1, .ref (qa g (o + 1)), .ref (qa g (o + 2)), .null, .null])) := ⟨_, rfl⟩
  refine q_name hN8 ?_
  have e0_8 : N8 o = .inr (5, [.int 2, .int 0, .int 0, .int 1, .ref (qa g (o + 1)), .ref (qa g (o + 2)), .null, .null]) := by rw [hN8]; exact va_up_self _ _ _
  have e1_8 : N8 (o + 1) = _ := (by rw [hN8]; exact va_up_ne _ _ (by omega) : N8 (o + 1) = N7 (o + 1)).trans e1_7
  have e2_8 : N8 (o + 2) = _ := (by rw [hN8]; exact va_up_ne _ _ (by omega) : N8 (o + 2) = N7 (o + 2)).trans e2_7
  have low_8 : ∀ q, q < o → N8 q = M q := fun q hq => (by rw [hN8]; exact va_up_ne _ _ (by omega) : N8 q = N7 q).trans (low_7 q hq)
  refine q_aload_n C 0 dX5_init_40 rfl rfl ?_
  refine q_bipush (v := 21) C dX5_init_41 (by decide) ?_
  refine q_newa_i (n9 := 21) C ac_int (by decide) (by decide) (by decide) ⟨Nat.le_of_ble_eq_true rfl, Nat.le_of_ble_eq_true rfl⟩ dX5_init_43 ?_
  show qR g (o + 4) (qZ g (o + 4)) 1 p l e rmX5_init s m args below meth c 3 63 (MQ below (qQv g (o + 5) (qZ g (o + 5)) (qmix g o M)) args s 4 84 (qA g)) (va_up N8 (o + 3) (.inl (g.2.2.1 0, 21, .inl fun _ => 0))) 45 [(0, .ref (qa g o))] (.ref (qa g (o + 3)) :: [.ref (qa g o)])
  obtain ⟨N9, hN9⟩ : ∃ z, z = va_up N8 (o + 3) (.inl (g.2.2.1 0, 21, .inl fun _ => 0)) := ⟨_, rfl⟩
  refine q_name hN9 ?_
  have e0_9 : N9 o = _ := (by rw [hN9]; exact va_up_ne _ _ (by omega) : N9 o = N8 o).trans e0_8
  have e1_9 : N9 (o + 1) = _ := (by rw [hN9]; exact va_up_ne _ _ (by omega) : N9 (o + 1) = N8 (o + 1)).trans e1_8
  have e2_9 : N9 (o + 2) = _ := (by rw [hN9]; exact va_up_ne _ _ (by omega) : N9 (o + 2) = N8 (o + 2)).trans e2_8
  have e3_9 : N9 (o + 3) = .inl (g.2.2.1 0, 21, .inl fun _ => 0) := by rw [hN9]; exact va_up_self _ _ _
  have low_9 : ∀ q, q < o → N9 q = M q := fun q hq => (by rw [hN9]; exact va_up_ne _ _ (by omega) : N9 q = N8 q).trans (low_8 q hq)
  refine q_putF (o := o) (ci := 5) (k := 6) (fs := [.int 2, .int 0, .int 0, .int 1, .ref (qa g (o + 1)), .ref (qa g (o + 2)), .null, .null]) (v := .ref (qa g (o + 3))) C (by omega) e0_9 (rfl : vwCl[5]? = some (RX5, TX5, 8)) (Nat.le_of_ble_eq_true rfl) (qwi 153 (by decide +kernel) (by decide +kernel)) (by decide +kernel) hin rfl (tyX5_ok 6 (Nat.le_of_ble_eq_true rfl)) rfl rfl (Nat.le_of_ble_eq_true rfl) dX5_init_45 ?_
  show qR g (o + 4) (qZ g (o + 4)) 1 p l e rmX5_init s m args below meth c 3 63 (MQ below (qQv g (o + 5) (qZ g (o + 5)) (qmix g o M)) args s 4 84 (qA g)) (va_up N9 o (.inr (5, [.int 2,.int 0,.int 0,.int 1,.ref (qa g (o + 1)),.ref (qa g (o + 2)),.ref (qa g (o + 3)),.null]))) 48 [(0, .ref (qa g o))] []
  obtain ⟨N10, hN10⟩ : ∃ z, z = va_up N9 o (.inr (5, [.int 2, .int 0, .int 0, .int 1, .ref (qa g (o + 1)), .ref (qa g (o + 2)), .ref (qa g (o + 3)), .null])) := ⟨_, rfl⟩
  refine q_name hN10 ?_
  have e0_10 : N10 o = .inr (5, [.int 2, .int 0, .int 0, .int 1, .ref (qa g (o + 1)), .ref (qa g (o + 2)), .ref (qa g (o + 3)), .null]) := by rw [hN10]; exact va_up_self _ _ _
  have e1_10 : N10 (o + 1) = _ := (by rw [hN10]; exact va_up_ne _ _ (by omega) : N10 (o + 1) = N9 (o + 1)).trans e1_9
  have e2_10 : N10 (o + 2) = _ := (by rw [hN10]; exact va_up_ne _ _ (by omega) : N10 (o + 2) = N9 (o + 2)).trans e2_9
  have e3_10 : N10 (o + 3) = _ := (by rw [hN10]; exact va_up_ne _ _ (by omega) : N10 (o + 3) = N9 (o + 3)).trans e3_9
  have low_10 : ∀ q, q < o → N10 q = M q := fun q hq => (by rw [hN10]; exact va_up_ne _ _ (by omega) : N10 q = N9 q).trans (low_9 q hq)
  refine q_aload_n C 0 dX5_init_48 rfl rfl ?_
  refine q_bipush (v := 21) C dX5_init_49 (by decide) ?_
  refine q_newa_z (n9 := 21) C ac_boolean (by decide) (by decide) (by decide) ⟨Nat.le_of_ble_eq_true rfl, Nat.le_of_ble_eq_true rfl⟩ dX5_init_51 ?_
  show qR g (o + 5) (qZ g (o + 5)) 1 p l e rmX5_init s m args below meth c 4 84 (MQ below (qQv g (o + 5) (qZ g (o + 5)) (qmix g o M)) args s 4 84 (qA g)) (va_up N10 (o + 4) (.inl (g.2.2.1 1, 21, .inl fun _ => 0))) 53 [(0, .ref (qa g o))] (.ref (qa g (o + 4)) :: [.ref (qa g o)])
  obtain ⟨N11, hN11⟩ : ∃ z, z = va_up N10 (o + 4) (.inl (g.2.2.1 1, 21, .inl fun _ => 0)) := ⟨_, rfl⟩
  refine q_name hN11 ?_
  have e0_11 : N11 o = _ := (by rw [hN11]; exact va_up_ne _ _ (by omega) : N11 o = N10 o).trans e0_10
  have e1_11 : N11 (o + 1) = _ := (by rw [hN11]; exact va_up_ne _ _ (by omega) : N11 (o + 1) = N10 (o + 1)).trans e1_10
  have e2_11 : N11 (o + 2) = _ := (by rw [hN11]; exact va_up_ne _ _ (by omega) : N11 (o + 2) = N10 (o + 2)).trans e2_10
  have e3_11 : N11 (o + 3) = _ := (by rw [hN11]; exact va_up_ne _ _ (by omega) : N11 (o + 3) = N10 (o + 3)).trans e3_10
  have e4_11 : N11 (o + 4) = .inl (g.2.2.1 1, 21, .inl fun _ => 0) := by rw [hN11]; exact va_up_self _ _ _
  have low_11 : ∀ q, q < o → N11 q = M q := fun q hq => (by rw [hN11]; exact va_up_ne _ _ (by omega) : N11 q = N10 q).trans (low_10 q hq)
  refine q_putF (o := o) (ci := 5) (k := 7) (fs := [.int 2, .int 0, .int 0, .int 1, .ref (qa g (o + 1)), .ref (qa g (o + 2)), .ref (qa g (o + 3)), .null]) (v := .ref (qa g (o + 4))) C (by omega) e0_11 (rfl : vwCl[5]? = some (RX5, TX5, 8)) (Nat.le_of_ble_eq_true rfl) (qwi 156 (by decide +kernel) (by decide +kernel)) (by decide +kernel) hin rfl (tyX5_ok 7 (Nat.le_of_ble_eq_true rfl)) rfl rfl (Nat.le_of_ble_eq_true rfl) dX5_init_53 ?_
  show qR g (o + 5) (qZ g (o + 5)) 1 p l e rmX5_init s m args below meth c 4 84 (MQ below (qQv g (o + 5) (qZ g (o + 5)) (qmix g o M)) args s 4 84 (qA g)) (va_up N11 o (.inr (5, [.int 2,.int 0,.int 0,.int 1,.ref (qa g (o + 1)),.ref (qa g (o + 2)),.ref (qa g (o + 3)),.ref (qa g (o + 4))]))) 56 [(0, .ref (qa g o))] []
  obtain ⟨N12, hN12⟩ : ∃ z, z = va_up N11 o (.inr (5, [.int 2, .int 0, .int 0, .int 1, .ref (qa g (o + 1)), .ref (qa g (o + 2)), .ref (qa g (o + 3)), .ref (qa g (o + 4))])) := ⟨_, rfl⟩
  refine q_name hN12 ?_
  have e0_12 : N12 o = .inr (5, [.int 2, .int 0, .int 0, .int 1, .ref (qa g (o + 1)), .ref (qa g (o + 2)), .ref (qa g (o + 3)), .ref (qa g (o + 4))]) := by rw [hN12]; exact va_up_self _ _ _
  have e1_12 : N12 (o + 1) = _ := (by rw [hN12]; exact va_up_ne _ _ (by omega) : N12 (o + 1) = N11 (o + 1)).trans e1_11
  have e2_12 : N12 (o + 2) = _ := (by rw [hN12]; exact va_up_ne _ _ (by omega) : N12 (o + 2) = N11 (o + 2)).trans e2_11
  have e3_12 : N12 (o + 3) = _ := (by rw [hN12]; exact va_up_ne _ _ (by omega) : N12 (o + 3) = N11 (o + 3)).trans e3_11
  have e4_12 : N12 (o + 4) = _ := (by rw [hN12]; exact va_up_ne _ _ (by omega) : N12 (o + 4) = N11 (o + 4)).trans e4_11
  have low_12 : ∀ q, q < o → N12 q = M q := fun q hq => (by rw [hN12]; exact va_up_ne _ _ (by omega) : N12 q = N11 q).trans (low_11 q hq)
  refine q_kret C hr (fun q hq => ?_) (Nat.le_refl _) (Nat.le_refl _) dX5_init_56
  by_cases h : q < o
  · rw [qmix_lo h, low_12 q h]
  · rw [qmix_hi (by omega)]
    rcases (show q = o ∨ q = (o + 1) ∨ q = (o + 2) ∨ q = (o + 3) ∨ q = (o + 4) by omega) with h9 | h9 | h9 | h9 | h9
    · rw [h9, e0_12]; exact qz_5 (ho.k0)
    · rw [h9, e1_12]; exact qz_10 (ho.k1)
    · rw [h9, e2_12]; exact qz_10 (ho.k2)
    · rw [h9, e3_12]; exact qz_10 (ho.k3)
    · rw [h9, e4_12]; exact qz_11 (ho.k4)
abbrev rmX2_init : Room := { frames := 1, cells := 3, slots := 27, locals := 40 }
set_option maxRecDepth 100000 in
set_option maxHeartbeats 4000000 in
theorem kX2_init {l : Launch} {g : qG} (o : Nat) (ho : tyR o) (M : Nat → va_E) (e0 : M o = .inr (2, [.null, .null, .null, .int 0])) : Met l yX2_init [.code yX2_init cX2_init 1 none] rmX2_init (qPc g (o + 1) (qZ g (o + 1)) M [.ref (qa g o)]) (qQv g (o + 4) (qZ g (o + 4)) (qmix g o M)) 3 27 (qA g) := by
  refine q_met (by decide) (Nat.le_of_ble_eq_true rfl) (fun p e s m args below meth c C hr hnm => ?_)
  have hin : meth.name = "<init>" := hnm
  have C : qC g cX2_init RX2 1 p s m meth c := C
  obtain ⟨M0, hM0⟩ : ∃ z, z = M := ⟨_, rfl⟩
  rw [← hM0] at e0
  have low0 : ∀ q, q < o → M0 q = M q := fun q _ => by rw [hM0]
  refine q_name hM0 ?_
  show qR g (o + 1) (qZ g (o + 1)) 1 p l e rmX2_init s m args below meth c 0 0 (MQ below (qQv g (o + 4) (qZ g (o + 4)) (qmix g o M)) args s 3 27 (qA g)) M0 0 [(0, .ref (qa g o))] []
  refine q_aload_n C 0 dX2_init_0 rfl rfl ?_
  refine q_oinit C (qwi 218 (by decide +kernel) (by decide +kernel)) oiI oiC (Nat.le_of_ble_eq_true rfl) (Nat.le_of_ble_eq_true rfl) dX2_init_1 ?_
  refine q_aload_n C 0 dX2_init_4 rfl rfl ?_
  refine q_bipush (v := 9) C dX2_init_5 (by decide) ?_
  refine q_newa_i (n9 := 9) C ac_int (by decide) (by decide) (by decide) ⟨Nat.le_of_ble_eq_true rfl, Nat.le_of_ble_eq_true rfl⟩ dX2_init_7 ?_
  show qR g (o + 2) (qZ g (o + 2)) 1 p l e rmX2_init s m args below meth c 1 9 (MQ below (qQv g (o + 4) (qZ g (o + 4)) (qmix g o M)) args s 3 27 (qA g)) (va_up M0 (o + 1) (.inl (g.2.2.1 0, 9, .inl fun _ => 0))) 9 [(0, .ref (qa g o))] (.ref (qa g (o + 1)) :: [.ref (qa g o)])
  obtain ⟨N1, hN1⟩ : ∃ z, z = va_up M0 (o + 1) (.inl (g.2.2.1 0, 9, .inl fun _ => 0)) := ⟨_, rfl⟩
  refine q_name hN1 ?_
  have e0_1 : N1 o = _ := (by rw [hN1]; exact va_up_ne _ _ (by omega) : N1 o = M0 o).trans e0
  have e1_1 : N1 (o + 1) = .inl (g.2.2.1 0, 9, .inl fun _ => 0) := by rw [hN1]; exact va_up_self _ _ _
  have low_1 : ∀ q, q < o → N1 q = M q := fun q hq => (by rw [hN1]; exact va_up_ne _ _ (by omega) : N1 q = M0 q).trans (low0 q hq)
  refine q_putF (o := o) (ci := 2) (k := 0) (fs := [.null, .null, .null, .int 0]) (v := .ref (qa g (o + 1))) C (by omega) e0_1 (rfl : vwCl[2]? = some (RX2, TX2, 4)) (Nat.le_of_ble_eq_true rfl) (qwi 219 (by decide +kernel) (by decide +kernel)) (by decide +kernel) hin rfl (tyX2_ok 0 (Nat.le_of_ble_eq_true rfl)) rfl rfl (Nat.le_of_ble_eq_true rfl) dX2_init_9 ?_
  show qR g (o + 2) (qZ g (o + 2)) 1 p l e rmX2_init s m args below meth c 1 9 (MQ below (qQv g (o + 4) (qZ g (o + 4)) (qmix g o M)) args s 3 27 (qA g)) (va_up N1 o (.inr (2, [.ref (qa g (o + 1)),.null,.null,.int 0]))) 12 [(0, .ref (qa g o))] []
  obtain ⟨N2, hN2⟩ : ∃ z, z = va_up N1 o (.inr (2, [.ref (qa g (o + 1)), .null, .null, .int 0])) := ⟨_, rfl⟩
  refine q_name hN2 ?_
  have e0_2 : N2 o = .inr (2, [.ref (qa g (o + 1)), .null, .null, .int 0]) := by rw [hN2]; exact va_up_self _ _ _
  have e1_2 : N2 (o + 1) = _ := (by rw [hN2]; exact va_up_ne _ _ (by omega) : N2 (o + 1) = N1 (o + 1)).trans e1_1
  have low_2 : ∀ q, q < o → N2 q = M q := fun q hq => (by rw [hN2]; exact va_up_ne _ _ (by omega) : N2 q = N1 q).trans (low_1 q hq)
  refine q_aload_n C 0 dX2_init_12 rfl rfl ?_
  refine q_bipush (v := 9) C dX2_init_13 (by decide) ?_
  refine q_newa_i (n9 := 9) C ac_int (by decide) (by decide) (by decide) ⟨Nat.le_of_ble_eq_true rfl, Nat.le_of_ble_eq_true rfl⟩ dX2_init_15 ?_
  show qR g (o + 3) (qZ g (o + 3)) 1 p l e rmX2_init s m args below meth c 2 18 (MQ below (qQv g (o + 4) (qZ g (o + 4)) (qmix g o M)) args s 3 27 (qA g)) (va_up N2 (o + 2) (.inl (g.2.2.1 0, 9, .inl fun _ => 0))) 17 [(0, .ref (qa g o))] (.ref (qa g (o + 2)) :: [.ref (qa g o)])
  obtain ⟨N3, hN3⟩ : ∃ z, z = va_up N2 (o + 2) (.inl (g.2.2.1 0, 9, .inl fun _ => 0)) := ⟨_, rfl⟩
  refine q_name hN3 ?_
  have e0_3 : N3 o = _ := (by rw [hN3]; exact va_up_ne _ _ (by omega) : N3 o = N2 o).trans e0_2
  have e1_3 : N3 (o + 1) = _ := (by rw [hN3]; exact va_up_ne _ _ (by omega) : N3 (o + 1) = N2 (o + 1)).trans e1_2
  have e2_3 : N3 (o + 2) = .inl (g.2.2.1 0, 9, .inl fun _ => 0) := by rw [hN3]; exact va_up_self _ _ _
  have low_3 : ∀ q, q < o → N3 q = M q := fun q hq => (by rw [hN3]; exact va_up_ne _ _ (by omega) : N3 q = N2 q).trans (low_2 q hq)
  refine q_putF (o := o) (ci := 2) (k := 1) (fs := [.ref (qa g (o + 1)), .null, .null, .int 0]) (v := .ref (qa g (o + 2))) C (by omega) e0_3 (rfl : vwCl[2]? = some (RX2, TX2, 4)) (Nat.le_of_ble_eq_true rfl) (qwi 220 (by decide +kernel) (by decide +kernel)) (by decide +kernel) hin rfl (tyX2_ok 1 (Nat.le_of_ble_eq_true rfl)) rfl rfl (Nat.le_of_ble_eq_true rfl) dX2_init_17 ?_
  show qR g (o + 3) (qZ g (o + 3)) 1 p l e rmX2_init s m args below meth c 2 18 (MQ below (qQv g (o + 4) (qZ g (o + 4)) (qmix g o M)) args s 3 27 (qA g)) (va_up N3 o (.inr (2, [.ref (qa g (o + 1)),.ref (qa g (o + 2)),.null,.int 0]))) 20 [(0, .ref (qa g o))] []
  obtain ⟨N4, hN4⟩ : ∃ z, z = va_up N3 o (.inr (2, [.ref (qa g (o + 1)), .ref (qa g (o + 2)), .null, .int 0])) := ⟨_, rfl⟩
  refine q_name hN4 ?_
  have e0_4 : N4 o = .inr (2, [.ref (qa g (o + 1)), .ref (qa g (o + 2)), .null, .int 0]) := by rw [hN4]; exact va_up_self _ _ _
  have e1_4 : N4 (o + 1) = _ := (by rw [hN4]; exact va_up_ne _ _ (by omega) : N4 (o + 1) = N3 (o + 1)).trans e1_3
  have e2_4 : N4 (o + 2) = _ := (by rw [hN4]; exact va_up_ne _ _ (by omega) : N4 (o + 2) = N3 (o + 2)).trans e2_3
  have low_4 : ∀ q, q < o → N4 q = M q := fun q hq => (by rw [hN4]; exact va_up_ne _ _ (by omega) : N4 q = N3 q).trans (low_3 q hq)
  refine q_aload_n C 0 dX2_init_20 rfl rfl ?_
  refine q_bipush (v := 9) C dX2_init_21 (by decide) ?_
  refine q_newa_i (n9 := 9) C ac_int (by decide) (by decide) (by decide) ⟨Nat.le_of_ble_eq_true rfl, Nat.le_of_ble_eq_true rfl⟩ dX2_init_23 ?_
  show qR g (o + 4) (qZ g (o + 4)) 1 p l e rmX2_init s m args below meth c 3 27 (MQ below (qQv g (o + 4) (qZ g (o + 4)) (qmix g o M)) args s 3 27 (qA g)) (va_up N4 (o + 3) (.inl (g.2.2.1 0, 9, .inl fun _ => 0))) 25 [(0, .ref (qa g o))] (.ref (qa g (o + 3)) :: [.ref (qa g o)])
  obtain ⟨N5, hN5⟩ : ∃ z, z = va_up N4 (o + 3) (.inl (g.2.2.1 0, 9, .inl fun _ => 0)) := ⟨_, rfl⟩
  refine q_name hN5 ?_
  have e0_5 : N5 o = _ := (by rw [hN5]; exact va_up_ne _ _ (by omega) : N5 o = N4 o).trans e0_4
  have e1_5 : N5 (o + 1) = _ := (by rw [hN5]; exact va_up_ne _ _ (by omega) : N5 (o + 1) = N4 (o + 1)).trans e1_4
  have e2_5 : N5 (o + 2) = _ := (by rw [hN5]; exact va_up_ne _ _ (by omega) : N5 (o + 2) = N4 (o + 2)).trans e2_4
  have e3_5 : N5 (o + 3) = .inl (g.2.2.1 0, 9, .inl fun _ => 0) := by rw [hN5]; exact va_up_self _ _ _
  have low_5 : ∀ q, q < o → N5 q = M q := fun q hq => (by rw [hN5]; exact va_up_ne _ _ (by omega) : N5 q = N4 q).trans (low_4 q hq)
  refine q_putF (o := o) (ci := 2) (k := 2) (fs := [.ref (qa g (o + 1)), .ref (qa g (o + 2)), .null, .int 0]) (v := .ref (qa g (o + 3))) C (by omega) e0_5 (rfl : vwCl[2]? = some (RX2, TX2, 4)) (Nat.le_of_ble_eq_true rfl) (qwi 221 (by decide +kernel) (by decide +kernel)) (by decide +kernel) hin rfl (tyX2_ok 2 (Nat.le_of_ble_eq_true rfl)) rfl rfl (Nat.le_of_ble_eq_true rfl) dX2_init_25 ?_
  show qR g (o + 4) (qZ g (o + 4)) 1 p l e rmX2_init s m args below meth c 3 27 (MQ below (qQv g (o + 4) (qZ g (o + 4)) (qmix g o M)) args s 3 27 (qA g)) (va_up N5 o (.inr (2, [.ref (qa g (o + 1)),.ref (qa g (o + 2)),.ref (qa g (o + 3)),.int 0]))) 28 [(0, .ref (qa g o))] []
  obtain ⟨N6, hN6⟩ : ∃ z, z = va_up N5 o (.inr (2, [.ref (qa g (o + 1)), .ref (qa g (o + 2)), .ref (qa g (o + 3)), .int 0])) := ⟨_, rfl⟩
  refine q_name hN6 ?_
  have e0_6 : N6 o = .inr (2, [.ref (qa g (o + 1)), .ref (qa g (o + 2)), .ref (qa g (o + 3)), .int 0]) := by rw [hN6]; exact va_up_self _ _ _
  have e1_6 : N6 (o + 1) = _ := (by rw [hN6]; exact va_up_ne _ _ (by omega) : N6 (o + 1) = N5 (o + 1)).trans e1_5
  have e2_6 : N6 (o + 2) = _ := (by rw [hN6]; exact va_up_ne _ _ (by omega) : N6 (o + 2) = N5 (o + 2)).trans e2_5
  have e3_6 : N6 (o + 3) = _ := (by rw [hN6]; exact va_up_ne _ _ (by omega) : N6 (o + 3) = N5 (o + 3)).trans e3_5
  have low_6 : ∀ q, q < o → N6 q = M q := fun q hq => (by rw [hN6]; exact va_up_ne _ _ (by omega) : N6 q = N5 q).trans (low_5 q hq)
  refine q_aload_n C 0 dX2_init_28 rfl rfl ?_
  refine q_iconst (v := 0) C dX2_init_29 (by decide) ?_
  refine q_put (o := o) (ci := 2) (k := 3) (fs := [.ref (qa g (o + 1)), .ref (qa g (o + 2)), .ref (qa g (o + 3)), .int 0]) (v := .int 0) C (by omega) e0_6 (rfl : vwCl[2]? = some (RX2, TX2, 4)) (Nat.le_of_ble_eq_true rfl) (qwi 222 (by decide +kernel) (by decide +kernel)) (by decide +kernel) (tyX2_ok 3 (Nat.le_of_ble_eq_true rfl)) rfl rfl (Nat.le_of_ble_eq_true rfl) dX2_init_30 ?_
  show qR g (o + 4) (qZ g (o + 4)) 1 p l e rmX2_init s m args below meth c 3 27 (MQ below (qQv g (o + 4) (qZ g (o + 4)) (qmix g o M)) args s 3 27 (qA g)) (va_up N6 o (.inr (2, [.ref (qa g (o + 1)),.ref (qa g (o + 2)),.ref (qa g (o + 3)),.int 0]))) 33 [(0, .ref (qa g o))] []
  obtain ⟨N7, hN7⟩ : ∃ z, z = va_up N6 o (.inr (2, [.ref (qa g (o + 1)), .ref (qa g (o + 2)), .ref (qa g (o + 3)), .int 0])) := ⟨_, rfl⟩
  refine q_name hN7 ?_
  have e0_7 : N7 o = .inr (2, [.ref (qa g (o + 1)), .ref (qa g (o + 2)), .ref (qa g (o + 3)), .int 0]) := by rw [hN7]; exact va_up_self _ _ _
  have e1_7 : N7 (o + 1) = _ := (by rw [hN7]; exact va_up_ne _ _ (by omega) : N7 (o + 1) = N6 (o + 1)).trans e1_6
  have e2_7 : N7 (o + 2) = _ := (by rw [hN7]; exact va_up_ne _ _ (by omega) : N7 (o + 2) = N6 (o + 2)).trans e2_6
  have e3_7 : N7 (o + 3) = _ := (by rw [hN7]; exact va_up_ne _ _ (by omega) : N7 (o + 3) = N6 (o + 3)).trans e3_6
  have low_7 : ∀ q, q < o → N7 q = M q := fun q hq => (by rw [hN7]; exact va_up_ne _ _ (by omega) : N7 q = N6 q).trans (low_6 q hq)
  refine q_kret C hr (fun q hq => ?_) (Nat.le_refl _) (Nat.le_refl _) dX2_init_33
  by_cases h : q < o
  · rw [qmix_lo h, low_7 q h]
  · rw [qmix_hi (by omega)]
    rcases (show q = o ∨ q = (o + 1) ∨ q = (o + 2) ∨ q = (o + 3) by omega) with h9 | h9 | h9 | h9
    · rw [h9, e0_7, qmem_o (ho.k0) (by decide)]; simp [qfs, qtm, S0c_z (ho.k0) (by decide)]
    · rw [h9, e1_7]; exact qz_10 (ho.k1)
    · rw [h9, e2_7]; exact qz_10 (ho.k2)
    · rw [h9, e3_7]; exact qz_10 (ho.k3)
end
