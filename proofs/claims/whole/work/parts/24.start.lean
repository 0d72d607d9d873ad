-- ===== end of PART A; then your names; then what follows =====
/-! THE CLAIM OUT OF ONE WALK OF THE LAW'S BODY. Your part is whole_start (and what it stands on); all else here is the same for every law, but numbers. -/
def R_law : String := "ClosedStreetsLaw"
def lw_P (b : Addr) (xs : List Int32) (args : Array Value) (s : State) : Prop := args = #[.ref b] ∧ s.IntsAt b xs ∧ xs.length ≤ 2048 ∧ (Jvm.Cond.and given_1 narrow_1).before args s = true
def lw_Q (_ : Array Value) (s : State) (o : Outcome) (t : State) : Prop := o = .returned (some (.int 1)) ∧ Framed s o t [] 601024 7293034
def lw_Z (below : List Frame) (a : Array Value) (s : State) : State → Prop := fun t => ∃ o, t.status = .running ∧ Ended t below o ∧ lw_Q a s o t
/-- the law's own end, with 1 on the stack, nothing written that was there before, its room as the claim has it -/
theorem lw_ret {p : Program} {l : Launch} {e : Env} {s : State} {m : MethodId} {below : List Frame} {meth : Method} {c : Code} {b : Nat} (hx : p.tables.exec = Jvm.exec) (hb : c.code = code) (hr : meth.sig.returnType = ret) (hlocks : meth.locks = false) {pc : Nat} {H : Heap} {ls : Array Slot} (hdg : decode code pc = .ok (.ireturn, 1)) : W p l e room_1 s m #[Value.ref b] below meth c H [] 601024 7293034 (lw_Z below #[Value.ref b] s) (F0 m pc ls [.int 1]) := by
  intro T hT X
  obtain ⟨fs, hret, hrun, hended, hW, hframe⟩ := X.leave (v := some (.int 1)) (hlocks := hlocks) (fun h => by rw [hr] at h; cases h)
  have hmeth' : T.vm.method? m = some meth := X.method'
  refine ⟨T.setFrames fs, ?_, .returned (some (.int 1)), hrun, hended, rfl, ⟨_, rfl⟩, hW, hframe⟩
  jvm_step X.here [X.here.top, hx, hb, hdg, hmeth', hr, ret, narrow_b1]
  (try refine ⟨rfl, ?_⟩); (try refine ⟨rfl, ?_⟩)
  first | (intro acts; rw [hret _ acts rfl rfl rfl]) | rw [hret _ _ rfl rfl rfl]
  exact Steps.refl _
/-- what holds at the law's entry: the machine, the code, the tables' words (any of lw_tbl by 'hts w (by decide +kernel)'), the script of L ints xs at the cell b, what the Statement gives of the start (any of its parts by flat_of_before) -/
def lw_At (p : Program) (s : State) (m : MethodId) (meth : Method) (c : Code) (b L : Nat) (xs : Nat → Int32) : Prop :=
  p.tables.exec = Jvm.exec ∧ c.code = code ∧ meth.sig.returnType = ret ∧ c.maxLocals = 7 ∧ s.vm.findClass R_law = some m.cls ∧ (∀ w ∈ lw_tbl, w.before #[Value.ref b] s = true) ∧ va_X b L xs s s.heap ∧ b < s.heap.size ∧ meth.locks = false ∧ (Jvm.Cond.and given_1 narrow_1).before #[Value.ref b] s = true

/-- what is left to show of the pure side -/
def LawOK : Prop := ∀ (xs : Nat → Int32) (L : Nat), L ≤ 2048 → ∃ (n k : Nat) (S1 S2 : qSt), k ≤ 600 ∧ ctorTail n S0c = some S1 ∧ S1 126 = (fun _ => 0) ∧ lawRun n xs L k 0 S1 = some S2
theorem st_good {s : State} {a : Array Value} (hts : ∀ w ∈ lw_tbl, w.before a s = true) : ∀ w ∈ lw_tbl, goodWord w = true → w.before #[] s = true := fun w hw hg => word_at (State.WarmedH.refl s) (good_of_word hg) (hts w hw)
theorem st_cls {s : State} {a : Array Value} (hts : ∀ w ∈ lw_tbl, w.before a s = true) : ∀ c : Nat, ∃ d : ClassId × (Nat → Nat), ∀ q : vw_C, vwCl[c]? = some q → u_Kn s q.1 q.2.1 q.2.2 d.1 d.2 := by
  have key : ∀ q ∈ vwCl, qw (.instantiable q.1 q.2.2) := by
    unfold qw
    decide +kernel
  intro c
  by_cases h : c < vwCl.length
  · have hq : vwCl[c]? = some vwCl[c] := List.getElem?_eq_getElem h
    have hm : vwCl[c] ∈ vwCl := List.getElem_mem h
    obtain ⟨c0, iS0, hK⟩ := u_known (C := vwCl[c].1) (T := vwCl[c].2.1) (N := vwCl[c].2.2) (n := vwCl[c].2.2) hts (fun w hw => (qcl_w _ hm w hw).1) (hts _ (key _ hm).1)
    refine ⟨(c0, iS0), fun q hq2 => ?_⟩
    cases Option.some.inj (hq.symm.trans hq2)
    exact hK
  · exact ⟨(0, fun _ => 0), fun q hq => absurd (List.getElem?_eq_some_iff.mp hq).1 h⟩
def st_tys : List FieldType := [.int, .boolean, .char, .long, .object RX5]
theorem st_arr {s : State} {a : Array Value} (hts : ∀ w ∈ lw_tbl, w.before a s = true) : ∀ k : Nat, ∃ cA : ClassId, ∀ ty : FieldType, st_tys[k]? = some ty → ArrOfT s cA ty ∧ va_RA s cA ty := by
  intro k
  match k with
  | 0 =>
    obtain ⟨cA, kA, comp, h1, h2, h3⟩ := Cond.arrayClass_spec (hts _ ac_int.1)
    exact ⟨cA, fun ty h => by cases h; exact ⟨fun n z => ⟨fun k h => (by cases h), kA, h2, comp, h3⟩, h1⟩⟩
  | 1 =>
    obtain ⟨cA, kA, comp, h1, h2, h3⟩ := Cond.arrayClass_spec (hts _ ac_boolean.1)
    exact ⟨cA, fun ty h => by cases h; exact ⟨fun n z => ⟨fun k h => (by cases h), kA, h2, comp, h3⟩, h1⟩⟩
  | 2 =>
    obtain ⟨cA, kA, comp, h1, h2, h3⟩ := Cond.arrayClass_spec (hts _ ac_char.1)
    exact ⟨cA, fun ty h => by cases h; exact ⟨fun n z => ⟨fun k h => (by cases h), kA, h2, comp, h3⟩, h1⟩⟩
  | 3 =>
    obtain ⟨cA, kA, comp, h1, h2, h3⟩ := Cond.arrayClass_spec (hts _ ac_long.1)
    exact ⟨cA, fun ty h => by cases h; exact ⟨fun n z => ⟨fun k h => (by cases h), kA, h2, comp, h3⟩, h1⟩⟩
  | 4 =>
    obtain ⟨comp, c, kA, h1, -, h2, h3, h4⟩ := Cond.arrayOver_spec (hts (.arrayOver (.object RX5)) (by decide +kernel))
    exact ⟨c, fun ty h => by cases h; exact ⟨fun n z => ⟨fun k h => (by cases h), kA, h2, comp, h3⟩, kA, comp, h2, h3, h1, h4⟩⟩
  | k + 5 => exact ⟨0, fun ty h => by simp [st_tys] at h⟩
def st_T (i : Nat) : Term := .string ((qStr.getD i ("", 0, "")).1) ((qStr.getD i ("", 0, "")).2.1)
abbrev st_flat : List Cond := flatC (Jvm.Cond.and given_1 narrow_1)
theorem st_ref : ∀ q ∈ qStr, Cond.stringRef q.1 q.2.1 q.2.2 ∈ lw_tbl := by decide +kernel
theorem st_ex : ∀ i, i < 26 → Cond.exactly (st_T i) "java/lang/String" ∈ st_flat := by decide +kernel
theorem st_co : ∀ i, i < 6 → Cond.eq (.field (st_T i) "java/lang/String" "coder" "B") (.int 0) ∈ st_flat := by decide +kernel
theorem st_ar : ∀ i, i < 6 → Cond.arrayOf (.field (st_T i) "java/lang/String" "value" "[B") .byte ∈ st_flat := by decide +kernel
theorem st_le : ∀ i, i < 6 → Cond.eq (.length (.field (st_T i) "java/lang/String" "value" "[B")) (.int (Int32.ofNat (qSlen.getD i 0))) ∈ st_flat := by decide +kernel
theorem st_el : ∀ i, i < 6 → ∀ j, j < qSlen.getD i 0 → Cond.eq (.elem (.field (st_T i) "java/lang/String" "value" "[B") (.int (Int32.ofNat j))) (.int ((qSbyt.getD i []).getD j 0)) ∈ st_flat := by decide +kernel
theorem st_ne : ∀ i, i < 6 → ∀ j, j < 6 → Int32.ofNat (qSlen.getD i 0) = Int32.ofNat (qSlen.getD j 0) → (∀ k, k < qSlen.getD i 0 → (qSbyt.getD i []).getD k 0 = (qSbyt.getD j []).getD k 0) → i = j := by decide +kernel
theorem st_len : ∀ i, i < 6 → qSlen.getD i 0 < 2 ^ 31 := by decide +kernel
theorem st_lenle : ∀ i, i < 6 → ∀ j, j < 6 → Int32.ofNat (qSlen.getD i 0) = Int32.ofNat (qSlen.getD j 0) → qSlen.getD i 0 = qSlen.getD j 0 := by decide +kernel
/-- two readings of one field -/
theorem st_one {o n d : String} {v w : Value} {t : Nat} {A : Nat → Prop} {U : State} {H : Heap} (h1 : va_OF o n d v t A U H) (h2 : va_OF o n d w t A U H) : v = w := by
  obtain ⟨cf, k, i, f, cell, a1, a2, a3, a4, a5, a6⟩ := h1
  obtain ⟨cf', k', i', f', cell', b1, b2, b3, b4, b5, b6⟩ := h2
  have e1 := Option.some.inj (a1.symm.trans b1)
  have e2 : f = f' := by have := congrArg (fun q => q.2.2.2) e1; exact this
  have e3 := Option.some.inj (a3.symm.trans b3)
  subst e2
  subst e3
  exact Option.some.inj (a5.symm.trans b5)
theorem st_str {s : State} {a : Array Value} {A : Nat → Prop} (hs : ∀ w ∈ st_flat, w.before a s = true) (hA : ∀ q : Nat, q < s.heap.size → ¬ A q) : ∃ adK adV : Nat → Nat, vk_S 6 qSlen qSbyt adK adV A s s.heap ∧ ∀ i : Nat, i < 26 → (st_T i).eval a s none [] s = some (.ref (adK i)) := by
  have h0 : ∀ i : Nat, ∃ q : Nat × Nat, (i < 26 → (st_T i).eval a s none [] s = some (.ref q.1)) ∧ (i < 6 → va_O "java/lang/String" q.1 A s s.heap ∧ va_OF "java/lang/String" "coder" "B" (.int 0) q.1 A s s.heap ∧ va_OF "java/lang/String" "value" "[B" (.ref q.2) q.1 A s s.heap ∧ va_T .byte q.2 (qSlen.getD i 0) (fun j => .int ((qSbyt.getD i []).getD j 0)) A s s.heap) := by
    intro i
    by_cases hi : i < 26
    · obtain ⟨a0, c, cA, kA, q1, q2, q3, q4, q5, q6, -⟩ := Cond.exactly_spec (args := a) (first := s) (o := none) (s := s) (idx := []) (t := st_T i) (cls := "java/lang/String") (hs _ (st_ex i hi))
      by_cases h6 : i < 6
      · obtain ⟨t, ht, hT⟩ := va_Tof (f := fun j => .int ((qSbyt.getD i []).getD j 0)) (A := A) (st_len i h6) (hs _ (st_ar i h6)) (va_eqt (hs _ (st_le i h6))) (fun j hj => va_eqt (hs _ (st_el i h6 j hj))) hA
        exact ⟨(a0, t), fun _ => q1, fun _ => ⟨⟨cA, q3, q5, by rw [q6]; exact q2, hA a0 (Array.getElem?_eq_some_iff.mp q3).1⟩, vk_OFof q1 (va_eqt (hs _ (st_co i h6))) hA, vk_OFof q1 ht hA, hT⟩⟩
      · exact ⟨(a0, 0), fun _ => q1, fun h => absurd h h6⟩
    · exact ⟨(0, 0), fun h => absurd h hi, fun h => absurd (Nat.lt_trans h (by decide)) hi⟩
  obtain ⟨ad, had⟩ := Classical.axiomOfChoice h0
  refine ⟨fun i => (ad i).1, fun i => (ad i).2, ⟨fun i hi => (had i).2 hi, fun i j hi hj e => ?_⟩, fun i hi => (had i).1 hi⟩
  obtain ⟨-, -, v1, t1⟩ := (had i).2 hi
  obtain ⟨-, -, v2, t2⟩ := (had j).2 hj
  have e' : (ad i).1 = (ad j).1 := e
  rw [← e'] at v2
  have ev : (ad i).2 = (ad j).2 := by
    exact Value.ref.inj (st_one v1 v2)
  rw [← ev] at t2
  obtain ⟨cell, a1, -, -, a4, a5, a6, -⟩ := t1
  obtain ⟨cell', b1, -, -, b4, b5, b6, -⟩ := t2
  have ec := Option.some.inj (a1.symm.trans b1)
  subst ec
  have el := a5.symm.trans b5
  have el2 := st_lenle i hi j hj el
  refine st_ne i hi j hj el fun k hk => ?_
  exact Value.int.inj (Option.some.inj ((a6 k hk).symm.trans (b6 k (by rw [← el2]; exact hk))))
theorem st_nc : ∀ q ∈ qNc, Cond.not (.castable q.1 q.2) ∈ st_flat := by decide +kernel
theorem st_nest : ∀ q ∈ qNest, Cond.methodLinkNest q.1 q.2.1 q.2.2.1 q.2.2.2 ∈ lw_tbl := by decide +kernel
theorem st_cast : ∀ E ∈ qCast, Cond.castable E E ∈ lw_tbl := by decide +kernel
theorem st_decl : ∀ x ∈ qDecl, Cond.declares x ∈ lw_tbl := by decide +kernel
theorem st_qI {s : State} {b : Addr} (hts : ∀ w ∈ lw_tbl, w.before #[.ref b] s = true) (hs : ∀ w ∈ st_flat, w.before #[.ref b] s = true) : ∃ g : qG, g.2.1 = s.heap.size ∧ qI g s s.heap := by
  obtain ⟨fd, hfd⟩ := Classical.axiomOfChoice (st_cls hts)
  obtain ⟨fa, hfa⟩ := Classical.axiomOfChoice (st_arr hts)
  have hA : ∀ q : Nat, q < s.heap.size → ¬ (s.heap.size ≤ q) := fun q h => by omega
  obtain ⟨adK, adV, hS, hev⟩ := st_str (A := fun q => s.heap.size ≤ q) hs hA
  refine ⟨((fun c => (fd c).1, fun c => (fd c).2), s.heap.size, fa, adK, adV), rfl, st_good hts, ⟨fun c q hq => hfd c q hq, fun k q hk => ?_⟩, fun q hq => va_Nw.of rfl (hts _ (st_nest q hq)), fun E hE => va_Nw.of rfl (hts _ (st_cast E hE)), fun x hx => va_Nw.of rfl (hts _ (st_decl x hx)), fun i q hq => ?_, ?_, ?_, hS, ?_, ?_, fun q hq => va_Nc.of (hs _ (st_nc q hq)), va_AO.of (hts (.arrayOver (.object RX5)) (by decide +kernel))⟩
  · match k, hk with
    | 0, hk => cases hk; exact hfa 0 _ rfl
    | 1, hk => cases hk; exact hfa 1 _ rfl
    | 2, hk => cases hk; exact hfa 2 _ rfl
    | 3, hk => cases hk; exact hfa 3 _ rfl
    | 4, hk => cases hk; exact hfa 4 _ rfl
    | k + 5, hk => simp [qty] at hk
  · have hi : i < 26 := (List.getElem?_eq_some_iff.mp hq).1
    have h1 := hts _ (st_ref q (List.mem_of_getElem? hq))
    have h2 := hev i hi
    have h3 : st_T i = .string q.1 q.2.1 := by
      unfold st_T
      rw [List.getD_eq_getElem?_getD, hq]
      rfl
    rw [h3] at h2
    have h4 : vk_R q.1 q.2.1 q.2.2 (adK i) s := by
      refine ⟨?_, ?_⟩
      · first
          | exact va_tabs rfl rfl h1
          | (simp only [Cond.before, Cond.holds, Cond.value] at h1 ⊢; exact h1)
      · first
          | exact h2
          | (rw [Term.string_eval_of_vm (args := #[.ref b]) (u := s) rfl]; exact h2)
    exact h4
  · exact vx_Zqof (hts _ (by decide +kernel)) (hts _ (by decide +kernel)) (hs _ (by decide +kernel)) hA
  · exact vx_Zqof (hts _ (by decide +kernel)) (hts _ (by decide +kernel)) (hs _ (by decide +kernel)) hA
  · exact va_Zof (hts _ (by decide +kernel)) (hts _ (by decide +kernel)) (va_eqi (hs _ (by decide +kernel))) hA
  · exact va_Zqof (hts _ (by decide +kernel)) (hts _ (by decide +kernel)) (hs _ (by decide +kernel)) hA
set_option maxHeartbeats 4000000 in
set_option maxRecDepth 100000 in
/-- the law's body, once the pure side is shown -/
theorem whole_start_open (hOK : LawOK) {p : Program} {e : Env} {s : State} {m : MethodId} {below : List Frame} {meth : Method} {c : Code} (l : Launch) (hflags : l.flags = flags0) {b L : Nat} {xs : Nat → Int32} (hL : L ≤ 2048) (C0 : lw_At p s m meth c b L xs) : W p l e room_1 s m #[Value.ref b] below meth c s.heap [] 0 0 (lw_Z below #[Value.ref b] s) (entryFrame m ([Value.ref b] : List Value).toArray 7) := by
  obtain ⟨hx, hb, hr, hml, hown, hts, hX, hbl, hlocks, hgv⟩ := id C0
  have hs := flat_of_before _ hgv
  obtain ⟨g, hg, hI⟩ := st_qI hts hs
  have hl9 : l.stackTraces = false := by
    unfold Launch.stackTraces
    rw [hflags]
    decide +kernel
  have C : qC g cL_law RL 7 p s m meth c := ⟨hx, hb, hml, hown, hlocks, hI, by rw [hg]; exact Nat.le_refl _⟩
  have hbA : ¬ qA g b := by
    unfold qA
    rw [hg]
    omega
  obtain ⟨n, k, S1, S2, hk, hct, h126, hrun⟩ := hOK xs L hL
  rw [lg_entry_eq]
  have hl := lv_entry ([.ref b]) (n := 7) (Nat.le_of_ble_eq_true rfl)
  have key : qR g 0 (qZ g 0) 7 p l e room_1 s m #[Value.ref b] below meth c 0 0 (lw_Z below #[Value.ref b] s) (fun _ => .inr (0, [])) 0 [(0, .ref b)] [] := by
    refine q_new (ci := 7) (q := (RX7, TX7, 9)) (fs := [.null, .null, .null, .null, .null, .null, .null, .null, .null]) C rfl clkL_8 ins_7 ini_7 tyX7 tyX7_ok (by decide +kernel) ⟨Nat.le_of_ble_eq_true rfl, Nat.le_of_ble_eq_true rfl⟩ dL_law_0 ?_
    refine q_dup C dL_law_3 rfl ?_
    refine q_callIv C (kX7_init _ (va_up_self _ _ _)) lmL_94 rfl (rest := [.ref (qa g 0)]) rfl (Nat.le_of_ble_eq_true rfl) dL_law_4 ⟨rfl, rfl, Nat.le_of_ble_eq_true rfl, Nat.le_of_ble_eq_true rfl, Nat.le_of_ble_eq_true rfl, Nat.le_of_ble_eq_true rfl⟩ ?_
    refine q_astore_n C (lv' := [(1, .ref (qa g 0)), (0, .ref b)]) dL_law_7 rfl (by decide) rfl ?_
    refine q_new (ci := 8) (q := (RX8, TX8, 22)) (fs := [.int 0, .null, .int 0, .int 0, .null, .null, .null, .null, .int 0, .null, .null, .null, .null, .null, .null, .int 0, .int 0, .int 0, .int 0, .null, .null, .null]) C rfl clkL_95 ins_8 ini_8 tyX8 tyX8_ok (by decide +kernel) ⟨Nat.le_of_ble_eq_true rfl, Nat.le_of_ble_eq_true rfl⟩ dL_law_8 ?_
    refine q_dup C dL_law_11 rfl ?_
    refine q_callIv C (kX8_init n hct _ (fun q hq => va_up_ne _ _ (by omega)) (va_up_self _ _ _)) lmL_97 rfl (rest := [.ref (qa g 111)]) rfl (Nat.le_of_ble_eq_true rfl) dL_law_12 ⟨rfl, rfl, Nat.le_of_ble_eq_true rfl, Nat.le_of_ble_eq_true rfl, Nat.le_of_ble_eq_true rfl, Nat.le_of_ble_eq_true rfl⟩ ?_
    refine q_astore_n C (lv' := [(2, .ref (qa g 111)), (1, .ref (qa g 0)), (0, .ref b)]) dL_law_15 rfl (by decide) rfl ?_
    refine q_iconst (v := 1) C dL_law_16 (by decide) ?_
    refine q_newa_l (n9 := 1) C ac_long (by decide) (by decide) (by decide) ⟨Nat.le_of_ble_eq_true rfl, Nat.le_of_ble_eq_true rfl⟩ dL_law_17 ?_
    refine q_same (M1 := qmem g S1) (fun q hq => ?_) ?_
    · by_cases h9 : q = 126
      · rw [h9, va_up_self, qmem_13 kd_126, h126]
        rfl
      · exact va_up_ne _ _ h9
    refine q_hz (hz1 := qT) (fun _ _ => trivial) ?_
    refine q_astore_n C (lv' := [(3, .ref (qa g 126)), (2, .ref (qa g 111)), (1, .ref (qa g 0)), (0, .ref b)]) dL_law_19 rfl (by decide) rfl ?_
    refine q_iconst (v := 0) C dL_law_20 (by decide) ?_
    refine q_istore C (lv' := [(4, .int 0), (3, .ref (qa g 126)), (2, .ref (qa g 111)), (1, .ref (qa g 0)), (0, .ref b)]) dL_law_21 (by decide) rfl ?_
    refine q_norm [4, 3, 2, 1, 0] rfl ?_
    refine WL_loop C hl9 hX hbl hbA n (fun S v4 c0 s0 hc hs9 => ?_) k 0 S1 S2 _ _ ?_ ?_ hrun
    · refine q_iconst (v := 1) C dL_law_1782 (by decide) ?_
      intro H locs ls hP hh hS hl
      refine va_forget (fun q hq => by have := hS.2.2 q hq; unfold qA at this; rw [hg] at this; exact this) ?_
      refine W.widen (k := 601024) (n := 7293034) hc hs9 ?_
      exact lw_ret hx hb hr hlocks dL_law_1783
    · show 127 + 2 * k ≤ 601024
      omega
    · show 4232 + 12 * k ≤ 7293034
      omega
  exact key s.heap [] _ (fun k q h => by simp [qW] at h) (by show s.heap.size = g.2.1 + 0; rw [hg]; rfl) va_S.rf hl
