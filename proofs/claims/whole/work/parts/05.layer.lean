/-! THE LAYER: all places of the run are numbered in the order in which they are made; place o lies at the address base + o. -/
abbrev qG : Type := va_G × Nat × (Nat → ClassId) × (Nat → Nat) × (Nat → Nat)
def qa (g : qG) (o : Nat) : Nat := g.2.1 + o
def qA (g : qG) : Nat → Prop := fun q => g.2.1 ≤ q
def qty (g : qG) : List (ClassId × FieldType) := [(g.2.2.1 0, .int), (g.2.2.1 1, .boolean), (g.2.2.1 2, .char), (g.2.2.1 3, .long), (g.2.2.1 4, .object RX5)]
def qW (g : qG) (N : Nat) (M : Nat → va_E) : va_W := (List.range N).map (fun o => (qa g o, M o))
theorem qW_len (g : qG) (N : Nat) (M : Nat → va_E) : (qW g N M).length = N := by simp [qW]
theorem qW_at {g : qG} {N : Nat} {M : Nat → va_E} {o : Nat} (h : o < N) : (qW g N M)[o]? = some (qa g o, M o) := by
  unfold qW
  rw [List.getElem?_map, List.getElem?_range h]
  rfl
theorem qW_out {g : qG} {N : Nat} {M : Nat → va_E} {o : Nat} {q : Nat × va_E} (h : (qW g N M)[o]? = some q) : o < N ∧ q = (qa g o, M o) := by
  have h1 : o < N := by
    have := (List.getElem?_eq_some_iff.mp h).1
    rwa [qW_len] at this
  rw [qW_at h1] at h
  exact ⟨h1, (Option.some.inj h).symm⟩
theorem qW_set {g : qG} {N : Nat} {M : Nat → va_E} {o : Nat} {e : va_E} (h : o < N) : (qW g N M).set o (qa g o, e) = qW g N (va_up M o e) := by
  apply List.ext_getElem?
  intro i
  rw [List.getElem?_set]
  by_cases hi : i < N
  · by_cases ho : o = i
    · subst ho
      rw [if_pos rfl, qW_len, if_pos h, qW_at h, va_up_self]
    · rw [if_neg ho, qW_at hi, qW_at hi, va_up_ne _ _ (fun z => ho z.symm)]
  · have h1 : (qW g N M)[i]? = none := List.getElem?_eq_none (by rw [qW_len]; omega)
    have h2 : (qW g N (va_up M o e))[i]? = none := List.getElem?_eq_none (by rw [qW_len]; omega)
    rw [if_neg (by omega), h1, h2]
theorem qW_push {g : qG} {N : Nat} {M : Nat → va_E} {e : va_E} : qW g N M ++ [(qa g N, e)] = qW g (N + 1) (va_up M N e) := by
  unfold qW
  rw [List.range_succ, List.map_append, List.map_cons, List.map_nil, va_up_self]
  congr 1
  refine List.map_congr_left fun a ha => ?_
  rw [va_up_ne _ _ (by have := List.mem_range.mp ha; omega)]
theorem qW_D (g : qG) (N : Nat) (M : Nat → va_E) : va_D (qA g) (qW g N M) := by
  refine ⟨fun i j p q hi hj hpq => ?_, fun k q hk => ?_⟩
  · obtain ⟨-, rfl⟩ := qW_out hi
    obtain ⟨-, rfl⟩ := qW_out hj
    have : qa g i = qa g j := hpq
    unfold qa at this
    omega
  · obtain ⟨-, rfl⟩ := qW_out hk
    exact Nat.le_add_right _ _
theorem qW_congr {g : qG} {N : Nat} {M M' : Nat → va_E} (h : ∀ o, o < N → M o = M' o) : qW g N M = qW g N M' := by
  unfold qW
  refine List.map_congr_left fun a ha => ?_
  rw [h a (List.mem_range.mp ha)]
/-- a word of the tables that stays -/
def qw (w : Cond) : Prop := w ∈ lw_tbl ∧ goodWord w = true
def qNest : List (String × Nat × MethodName × String) := [(RX7, 9, yX4_init, RX7), (RX7, 18, yX6_init, RX7), (RX7, 25, yX1_init, RX7), (RX7, 32, yX5_init, RX7), (RX0, 24, yX5_init, RX7), (RX3, 21, yX5_init, RX7), (RX7, 56, yX2_init, RX7), (RX5, 64, yX7_refusalOfLength, RX7)]
def qCast : List String := ["java/lang/IllegalArgumentException", "java/lang/IllegalStateException", "java/lang/IndexOutOfBoundsException"]
def qDecl : List MethodName := [⟨"java/lang/Exception", "<init>", "(Ljava/lang/String;)V"⟩, ⟨"java/lang/RuntimeException", "<init>", "(Ljava/lang/String;)V"⟩, ⟨"java/lang/Throwable", "<init>", "(Ljava/lang/String;)V"⟩]
def qStr : List (String × Nat × String) := [(RX1, 76, "open"), (RX1, 78, "close"), (RX1, 80, "long"), (RX1, 82, "ends"), (RX1, 84, "turn"), (RX1, 86, ""), (RX7, 66, "no such character code"), (RX7, 77, "the text is full"), (RX7, 91, "the text is not a town"), (RX7, 131, "no such number of the town"), (RX7, 304, "no such street"), (RX7, 154, "no such number of a street"), (RX7, 309, "no such crossing"), (RX7, 173, "no such number of a crossing"), (RX7, 311, "a place is 0 or more"), (RX7, 294, "no such crossing or street"), (RX7, 297, "an argument is out of its range"), (RX7, 299, "the town does not allow it"), (RX7, 214, "the text is not a plan"), (RX7, 225, "no state is remembered"), (RX7, 247, "the length is not 0 to 999"), (RX7, 256, "a script has 1 to 3 commands"), (RX7, 262, "the script has too many digits"), (RX7, 270, "the days are not 1 to 60"), (RX7, 313, "no such save slot"), (RX7, 287, "nothing has been saved in this slot")]
def qNc : List (String × String) := [("java/lang/IllegalArgumentException", "java/lang/IllegalStateException"), ("java/lang/IllegalArgumentException", "java/lang/IndexOutOfBoundsException"), ("java/lang/IllegalStateException", "java/lang/IllegalArgumentException"), ("java/lang/IllegalStateException", "java/lang/IndexOutOfBoundsException"), ("java/lang/IndexOutOfBoundsException", "java/lang/IllegalArgumentException"), ("java/lang/IndexOutOfBoundsException", "java/lang/IllegalStateException")]
def qSlen : List Nat := [4, 5, 4, 4, 4, 0]
def qSbyt : List (List Int32) := [[111, 112, 101, 110], [99, 108, 111, 115, 101], [108, 111, 110, 103], [101, 110, 100, 115], [116, 117, 114, 110], []]
/-- what holds of the machine in every state of the run, its heap being H -/
def qI (g : qG) (s : State) (H : Heap) : Prop :=
  (∀ w ∈ lw_tbl, goodWord w = true → w.before #[] s = true) ∧ va_K g.1 vwCl (qty g) s ∧ (∀ q ∈ qNest, va_Nw (.methodLinkNest q.1 q.2.1 q.2.2.1 q.2.2.2) s) ∧ (∀ E ∈ qCast, va_Nw (.castable E E) s) ∧ (∀ x ∈ qDecl, va_Nw (.declares x) s) ∧
  (∀ (i : Nat) (q : String × Nat × String), qStr[i]? = some q → vk_R q.1 q.2.1 q.2.2 (g.2.2.2.1 i) s) ∧ vx_Zq Bundle.tN "UNASSIGNED_STACK" Bundle.steD (qA g) s H ∧ vx_Zq Bundle.tN "SUPPRESSED_SENTINEL" Bundle.listD (qA g) s H ∧
  vk_S 6 qSlen qSbyt g.2.2.2.1 g.2.2.2.2 (qA g) s H ∧ va_Z "java/lang/String" "COMPACT_STRINGS" "Z" (.int 1) (qA g) s H ∧ va_Zq "jdk/internal/util/Preconditions" "SIOOBE_FORMATTER" "Ljava/util/function/BiFunction;" (qA g) s H ∧ (∀ q ∈ qNc, va_Nc q.1 q.2 s) ∧ va_AO RX5 s
theorem qI.step {g : qG} {s U : State} {H : Heap} (h : qI g s H) (hW : s.WarmedH U.vm) (hk : ∀ a : Nat, a < H.size → ¬ qA g a → U.heap[a]? = H[a]?) : qI g U U.heap := by
  obtain ⟨h1, h2, h3, h4, h5, h6, h7, h8, h9, h10, h11, h12, h13⟩ := h
  have hv := hW.alike
  exact ⟨fun w hw hg => word_at hW (good_of_word hg) (h1 w hw hg), h2.moved hv, fun q hq => (h3 q hq).warmM hW, fun E hE => (h4 E hE).warmC hW, fun x hx => (h5 x hx).warmD hW, fun i q hq => (h6 i q hq).warm hW,
    (h7.moved hv).kept hk, (h8.moved hv).kept hk, (h9.moved hv).kept hk, (va_Z.moved hv h10).kept hk, (va_Zq.moved hv h11).kept hk, fun q hq => (h12 q hq).moved hv, h13.moved hv⟩
/-- what stays the same through a method -/
def qC (g : qG) (cc : ByteArray) (own : String) (nL : Nat) (p : Program) (s : State) (m : MethodId) (meth : Method) (c : Code) : Prop :=
  p.tables.exec = Jvm.exec ∧ c.code = cc ∧ c.maxLocals = nL ∧ s.vm.findClass own = some m.cls ∧ meth.locks = false ∧ qI g s s.heap ∧ g.2.1 ≤ s.heap.size
theorem qC.w {g : qG} {cc : ByteArray} {own : String} {nL : Nat} {p : Program} {s : State} {m : MethodId} {meth : Method} {c : Code} (C : qC g cc own nL p s m meth c) {w : Cond} {args : Array Value} (h : qw w) : w.before args s = true := word_at (State.WarmedH.refl s) (good_of_word h.2) (C.2.2.2.2.2.1.1 w h.1 h.2)
/-- at pc, the places hold M (N of them), the locals lv, the stack st: from here Q is reached -/
def qR (g : qG) (N : Nat) (hz : Nat → Prop) (nL : Nat) (p : Program) (l : Launch) (e : Env) (R : Room) (s : State) (m : MethodId) (args : Array Value) (below : List Frame) (meth : Method) (c : Code) (cells slots : Nat) (Q : State → Prop) (M : Nat → va_E) (pc : Nat) (lv : List (Nat × Value)) (st : List Value) : Prop :=
  ∀ (H : Heap) (locs : List Loc) (ls : Array Slot), va_P g.1 vwCl (qW g N M) H → hz H.size → va_S (qA g) s.heap H locs → lv_has ls nL lv → W p l e R s m args below meth c H locs cells slots Q (F0 m pc ls st)
section QLA
variable {g : qG} {N : Nat} {hz : Nat → Prop} {nL : Nat} {p : Program} {l : Launch} {e : Env} {R : Room} {s : State} {m : MethodId} {args : Array Value} {below : List Frame} {meth : Method} {c : Code} {cells slots : Nat} {Q : State → Prop} {M : Nat → va_E} {pc : Nat} {lv : List (Nat × Value)} {rest : List Value} {cc : ByteArray} {own : String}
theorem q_iconst (C : qC g cc own nL p s m meth c) {n : Int} {v : Int32} (hdg : decode cc pc = .ok (.iconst n, 1)) (hv : Int32.ofInt n = v) (k : qR g N hz nL p l e R s m args below meth c cells slots Q M (pc + 1) lv (.int v :: rest)) : qR g N hz nL p l e R s m args below meth c cells slots Q M pc lv rest :=
  fun H locs ls hP hh hS hl => lv_iconst C.1 C.2.1 hdg hv (k H locs ls hP hh hS hl)
theorem q_bipush (C : qC g cc own nL p s m meth c) {n : Int} {v : Int32} (hdg : decode cc pc = .ok (.bipush n, 2)) (hv : (Int8.ofInt n).toInt32 = v) (k : qR g N hz nL p l e R s m args below meth c cells slots Q M (pc + 2) lv (.int v :: rest)) : qR g N hz nL p l e R s m args below meth c cells slots Q M pc lv rest :=
  fun H locs ls hP hh hS hl => lv_bipush C.1 C.2.1 hdg hv (k H locs ls hP hh hS hl)
theorem q_sipush (C : qC g cc own nL p s m meth c) {n : Int} {v : Int32} (hdg : decode cc pc = .ok (.sipush n, 3)) (hv : (Int16.ofInt n).toInt32 = v) (k : qR g N hz nL p l e R s m args below meth c cells slots Q M (pc + 3) lv (.int v :: rest)) : qR g N hz nL p l e R s m args below meth c cells slots Q M pc lv rest :=
  fun H locs ls hP hh hS hl => lv_sipush C.1 C.2.1 hdg hv (k H locs ls hP hh hS hl)
theorem q_lconst (C : qC g cc own nL p s m meth c) {n : Fin 2} {v : Int64} (hdg : decode cc pc = .ok (.lconst n, 1)) (hv : Int64.ofNat (n : Nat) = v) (k : qR g N hz nL p l e R s m args below meth c cells slots Q M (pc + 1) lv (.long v :: rest)) : qR g N hz nL p l e R s m args below meth c cells slots Q M pc lv rest :=
  fun H locs ls hP hh hS hl => lv_lconst C.1 C.2.1 hdg hv (k H locs ls hP hh hS hl)
theorem q_ldc (C : qC g cc own nL p s m meth c) {index : Nat} {v : Int32} (hw : qw (Jvm.Cond.constant own index v)) (hdg : decode cc pc = .ok (.ldc index, 2)) (k : qR g N hz nL p l e R s m args below meth c cells slots Q M (pc + 2) lv (.int v :: rest)) : qR g N hz nL p l e R s m args below meth c cells slots Q M pc lv rest :=
  fun H locs ls hP hh hS hl => lv_ldc C.1 C.2.1 C.2.2.2.1 (C.w hw) hdg (k H locs ls hP hh hS hl)
theorem q_ldc2 (C : qC g cc own nL p s m meth c) {index : Nat} {v : Int64} (hw : qw (Jvm.Cond.constantLong own index v)) (hdg : decode cc pc = .ok (.ldc2_w index, 3)) (k : qR g N hz nL p l e R s m args below meth c cells slots Q M (pc + 3) lv (.long v :: rest)) : qR g N hz nL p l e R s m args below meth c cells slots Q M pc lv rest :=
  fun H locs ls hP hh hS hl => lv_ldc2 C.1 C.2.1 C.2.2.2.1 (C.w hw) hdg (k H locs ls hP hh hS hl)
theorem q_iload_n (C : qC g cc own nL p s m meth c) {k : Fin 4} {i : Nat} {x : Int32} (j : Nat) (hdg : decode cc pc = .ok (.iload_n k, 1)) (hi : (k : Nat) = i) (hl0 : lv[j]? = some (i, .int x)) (k : qR g N hz nL p l e R s m args below meth c cells slots Q M (pc + 1) lv (.int x :: rest)) : qR g N hz nL p l e R s m args below meth c cells slots Q M pc lv rest :=
  fun H locs ls hP hh hS hl => lv_iload_n C.1 C.2.1 hdg hi (lv_at hl j hl0) (k H locs ls hP hh hS hl)
theorem q_iload (C : qC g cc own nL p s m meth c) {i : Nat} {x : Int32} (j : Nat) (hdg : decode cc pc = .ok (.iload i, 2)) (hl0 : lv[j]? = some (i, .int x)) (k : qR g N hz nL p l e R s m args below meth c cells slots Q M (pc + 2) lv (.int x :: rest)) : qR g N hz nL p l e R s m args below meth c cells slots Q M pc lv rest :=
  fun H locs ls hP hh hS hl => lv_iload C.1 C.2.1 hdg (lv_at hl j hl0) (k H locs ls hP hh hS hl)
theorem q_lload_n (C : qC g cc own nL p s m meth c) {k : Fin 4} {i : Nat} {x : Int64} (j : Nat) (hdg : decode cc pc = .ok (.lload_n k, 1)) (hi : (k : Nat) = i) (hl0 : lv[j]? = some (i, .long x)) (k : qR g N hz nL p l e R s m args below meth c cells slots Q M (pc + 1) lv (.long x :: rest)) : qR g N hz nL p l e R s m args below meth c cells slots Q M pc lv rest :=
  fun H locs ls hP hh hS hl => lv_lload_n C.1 C.2.1 hdg hi (lv_at hl j hl0) (k H locs ls hP hh hS hl)
theorem q_lload (C : qC g cc own nL p s m meth c) {i : Nat} {x : Int64} (j : Nat) (hdg : decode cc pc = .ok (.lload i, 2)) (hl0 : lv[j]? = some (i, .long x)) (k : qR g N hz nL p l e R s m args below meth c cells slots Q M (pc + 2) lv (.long x :: rest)) : qR g N hz nL p l e R s m args below meth c cells slots Q M pc lv rest :=
  fun H locs ls hP hh hS hl => lv_lload C.1 C.2.1 hdg (lv_at hl j hl0) (k H locs ls hP hh hS hl)
theorem q_aload_n (C : qC g cc own nL p s m meth c) {k : Fin 4} {i x : Nat} (j : Nat) (hdg : decode cc pc = .ok (.aload_n k, 1)) (hi : (k : Nat) = i) (hl0 : lv[j]? = some (i, .ref x)) (k : qR g N hz nL p l e R s m args below meth c cells slots Q M (pc + 1) lv (.ref x :: rest)) : qR g N hz nL p l e R s m args below meth c cells slots Q M pc lv rest :=
  fun H locs ls hP hh hS hl => lv_aload_n C.1 C.2.1 hdg hi (lv_at hl j hl0) (k H locs ls hP hh hS hl)
theorem q_aload (C : qC g cc own nL p s m meth c) {i x : Nat} (j : Nat) (hdg : decode cc pc = .ok (.aload i, 2)) (hl0 : lv[j]? = some (i, .ref x)) (k : qR g N hz nL p l e R s m args below meth c cells slots Q M (pc + 2) lv (.ref x :: rest)) : qR g N hz nL p l e R s m args below meth c cells slots Q M pc lv rest :=
  fun H locs ls hP hh hS hl => lv_aload C.1 C.2.1 hdg (lv_at hl j hl0) (k H locs ls hP hh hS hl)
theorem q_istore_n (C : qC g cc own nL p s m meth c) {k : Fin 4} {i : Nat} {x : Int32} {lv' : List (Nat × Value)} (hdg : decode cc pc = .ok (.istore_n k, 1)) (hi : (k : Nat) = i) (hn : i < nL) (hl0 : (i, Value.int x) :: lv.filter (fun q => !(q.1 == i) && !(q.1 + 1 == i && q.2.category == 2)) = lv') (k : qR g N hz nL p l e R s m args below meth c cells slots Q M (pc + 1) lv' rest) : qR g N hz nL p l e R s m args below meth c cells slots Q M pc lv (.int x :: rest) :=
  fun H locs ls hP hh hS hl => lv_istore_n C.1 C.2.1 hdg hi hl hn hl0 (fun ls hl => k H locs ls hP hh hS hl)
theorem q_istore (C : qC g cc own nL p s m meth c) {i : Nat} {x : Int32} {lv' : List (Nat × Value)} (hdg : decode cc pc = .ok (.istore i, 2)) (hn : i < nL) (hl0 : (i, Value.int x) :: lv.filter (fun q => !(q.1 == i) && !(q.1 + 1 == i && q.2.category == 2)) = lv') (k : qR g N hz nL p l e R s m args below meth c cells slots Q M (pc + 2) lv' rest) : qR g N hz nL p l e R s m args below meth c cells slots Q M pc lv (.int x :: rest) :=
  fun H locs ls hP hh hS hl => lv_istore C.1 C.2.1 hdg hl hn hl0 (fun ls hl => k H locs ls hP hh hS hl)
theorem q_lstore_n (C : qC g cc own nL p s m meth c) {k : Fin 4} {i : Nat} {x : Int64} {lv' : List (Nat × Value)} (hdg : decode cc pc = .ok (.lstore_n k, 1)) (hi : (k : Nat) = i) (hn : i + 1 < nL) (hl0 : (i, Value.long x) :: lv.filter (fun q => !(q.1 == i) && (!(q.1 == i + 1) && !(q.1 + 1 == i && q.2.category == 2))) = lv') (k : qR g N hz nL p l e R s m args below meth c cells slots Q M (pc + 1) lv' rest) : qR g N hz nL p l e R s m args below meth c cells slots Q M pc lv (.long x :: rest) :=
  fun H locs ls hP hh hS hl => lv_lstore_n C.1 C.2.1 hdg hi hl hn hl0 (fun ls hl => k H locs ls hP hh hS hl)
theorem q_lstore (C : qC g cc own nL p s m meth c) {i : Nat} {x : Int64} {lv' : List (Nat × Value)} (hdg : decode cc pc = .ok (.lstore i, 2)) (hn : i + 1 < nL) (hl0 : (i, Value.long x) :: lv.filter (fun q => !(q.1 == i) && (!(q.1 == i + 1) && !(q.1 + 1 == i && q.2.category == 2))) = lv') (k : qR g N hz nL p l e R s m args below meth c cells slots Q M (pc + 2) lv' rest) : qR g N hz nL p l e R s m args below meth c cells slots Q M pc lv (.long x :: rest) :=
  fun H locs ls hP hh hS hl => lv_lstore C.1 C.2.1 hdg hl hn hl0 (fun ls hl => k H locs ls hP hh hS hl)
theorem q_astore_n (C : qC g cc own nL p s m meth c) {k : Fin 4} {i x : Nat} {lv' : List (Nat × Value)} (hdg : decode cc pc = .ok (.astore_n k, 1)) (hi : (k : Nat) = i) (hn : i < nL) (hl0 : (i, Value.ref x) :: lv.filter (fun q => !(q.1 == i) && !(q.1 + 1 == i && q.2.category == 2)) = lv') (k : qR g N hz nL p l e R s m args below meth c cells slots Q M (pc + 1) lv' rest) : qR g N hz nL p l e R s m args below meth c cells slots Q M pc lv (.ref x :: rest) :=
  fun H locs ls hP hh hS hl => lv_astore_n C.1 C.2.1 hdg hi hl hn hl0 (fun ls hl => k H locs ls hP hh hS hl)
theorem q_astore (C : qC g cc own nL p s m meth c) {i x : Nat} {lv' : List (Nat × Value)} (hdg : decode cc pc = .ok (.astore i, 2)) (hn : i < nL) (hl0 : (i, Value.ref x) :: lv.filter (fun q => !(q.1 == i) && !(q.1 + 1 == i && q.2.category == 2)) = lv') (k : qR g N hz nL p l e R s m args below meth c cells slots Q M (pc + 2) lv' rest) : qR g N hz nL p l e R s m args below meth c cells slots Q M pc lv (.ref x :: rest) :=
  fun H locs ls hP hh hS hl => lv_astore C.1 C.2.1 hdg hl hn hl0 (fun ls hl => k H locs ls hP hh hS hl)
theorem q_iinc (C : qC g cc own nL p s m meth c) {i : Nat} {n : Int} {x v : Int32} {lv' : List (Nat × Value)} (j : Nat) (hdg : decode cc pc = .ok (.iinc i n, 3)) (hk : lv[j]? = some (i, .int x)) (hv : x + Int32.ofInt n = v) (hn : i < nL) (hl0 : (i, Value.int v) :: lv.filter (fun q => !(q.1 == i) && !(q.1 + 1 == i && q.2.category == 2)) = lv') (k : qR g N hz nL p l e R s m args below meth c cells slots Q M (pc + 3) lv' rest) : qR g N hz nL p l e R s m args below meth c cells slots Q M pc lv rest :=
  fun H locs ls hP hh hS hl => lv_iinc C.1 C.2.1 hdg hl hk hv hn hl0 (fun ls hl => k H locs ls hP hh hS hl)
/-- other locals, by their places; the world said otherwise -/
theorem q_norm (ks : List Nat) {lv' : List (Nat × Value)} (hl0 : lv_pick lv ks = lv') (k : qR g N hz nL p l e R s m args below meth c cells slots Q M pc lv' rest) : qR g N hz nL p l e R s m args below meth c cells slots Q M pc lv rest :=
  fun H locs ls hP hh hS hl => k H locs ls hP hh hS (lv_sub hl ks hl0)
theorem q_iadd (C : qC g cc own nL p s m meth c) {x y : Int32} (hdg : decode cc pc = .ok (.iadd, 1)) (k : qR g N hz nL p l e R s m args below meth c cells slots Q M (pc + 1) lv (.int (x + y) :: rest)) : qR g N hz nL p l e R s m args below meth c cells slots Q M pc lv (.int y :: .int x :: rest) :=
  fun H locs ls hP hh hS hl => lv_iadd C.1 C.2.1 hdg (k H locs ls hP hh hS hl)
theorem q_isub (C : qC g cc own nL p s m meth c) {x y : Int32} (hdg : decode cc pc = .ok (.isub, 1)) (k : qR g N hz nL p l e R s m args below meth c cells slots Q M (pc + 1) lv (.int (x - y) :: rest)) : qR g N hz nL p l e R s m args below meth c cells slots Q M pc lv (.int y :: .int x :: rest) :=
  fun H locs ls hP hh hS hl => lv_isub C.1 C.2.1 hdg (k H locs ls hP hh hS hl)
theorem q_imul (C : qC g cc own nL p s m meth c) {x y : Int32} (hdg : decode cc pc = .ok (.imul, 1)) (k : qR g N hz nL p l e R s m args below meth c cells slots Q M (pc + 1) lv (.int (x * y) :: rest)) : qR g N hz nL p l e R s m args below meth c cells slots Q M pc lv (.int y :: .int x :: rest) :=
  fun H locs ls hP hh hS hl => lv_imul C.1 C.2.1 hdg (k H locs ls hP hh hS hl)
theorem q_iand (C : qC g cc own nL p s m meth c) {x y : Int32} (hdg : decode cc pc = .ok (.iand, 1)) (k : qR g N hz nL p l e R s m args below meth c cells slots Q M (pc + 1) lv (.int (x &&& y) :: rest)) : qR g N hz nL p l e R s m args below meth c cells slots Q M pc lv (.int y :: .int x :: rest) :=
  fun H locs ls hP hh hS hl => lv_iand C.1 C.2.1 hdg (k H locs ls hP hh hS hl)
theorem q_ior (C : qC g cc own nL p s m meth c) {x y : Int32} (hdg : decode cc pc = .ok (.ior, 1)) (k : qR g N hz nL p l e R s m args below meth c cells slots Q M (pc + 1) lv (.int (x ||| y) :: rest)) : qR g N hz nL p l e R s m args below meth c cells slots Q M pc lv (.int y :: .int x :: rest) :=
  fun H locs ls hP hh hS hl => lv_ior C.1 C.2.1 hdg (k H locs ls hP hh hS hl)
theorem q_ishl (C : qC g cc own nL p s m meth c) {x y : Int32} (hdg : decode cc pc = .ok (.ishl, 1)) (k : qR g N hz nL p l e R s m args below meth c cells slots Q M (pc + 1) lv (.int (x <<< (y &&& 31)) :: rest)) : qR g N hz nL p l e R s m args below meth c cells slots Q M pc lv (.int y :: .int x :: rest) :=
  fun H locs ls hP hh hS hl => lv_ishl C.1 C.2.1 hdg (k H locs ls hP hh hS hl)
theorem q_ladd (C : qC g cc own nL p s m meth c) {x y : Int64} (hdg : decode cc pc = .ok (.ladd, 1)) (k : qR g N hz nL p l e R s m args below meth c cells slots Q M (pc + 1) lv (.long (x + y) :: rest)) : qR g N hz nL p l e R s m args below meth c cells slots Q M pc lv (.long y :: .long x :: rest) :=
  fun H locs ls hP hh hS hl => lv_ladd C.1 C.2.1 hdg (k H locs ls hP hh hS hl)
theorem q_lsub (C : qC g cc own nL p s m meth c) {x y : Int64} (hdg : decode cc pc = .ok (.lsub, 1)) (k : qR g N hz nL p l e R s m args below meth c cells slots Q M (pc + 1) lv (.long (x - y) :: rest)) : qR g N hz nL p l e R s m args below meth c cells slots Q M pc lv (.long y :: .long x :: rest) :=
  fun H locs ls hP hh hS hl => lv_lsub C.1 C.2.1 hdg (k H locs ls hP hh hS hl)
theorem q_lmul (C : qC g cc own nL p s m meth c) {x y : Int64} (hdg : decode cc pc = .ok (.lmul, 1)) (k : qR g N hz nL p l e R s m args below meth c cells slots Q M (pc + 1) lv (.long (x * y) :: rest)) : qR g N hz nL p l e R s m args below meth c cells slots Q M pc lv (.long y :: .long x :: rest) :=
  fun H locs ls hP hh hS hl => lv_lmul C.1 C.2.1 hdg (k H locs ls hP hh hS hl)
theorem q_land (C : qC g cc own nL p s m meth c) {x y : Int64} (hdg : decode cc pc = .ok (.land, 1)) (k : qR g N hz nL p l e R s m args below meth c cells slots Q M (pc + 1) lv (.long (x &&& y) :: rest)) : qR g N hz nL p l e R s m args below meth c cells slots Q M pc lv (.long y :: .long x :: rest) :=
  fun H locs ls hP hh hS hl => lv_land C.1 C.2.1 hdg (k H locs ls hP hh hS hl)
theorem q_lor (C : qC g cc own nL p s m meth c) {x y : Int64} (hdg : decode cc pc = .ok (.lor, 1)) (k : qR g N hz nL p l e R s m args below meth c cells slots Q M (pc + 1) lv (.long (x ||| y) :: rest)) : qR g N hz nL p l e R s m args below meth c cells slots Q M pc lv (.long y :: .long x :: rest) :=
  fun H locs ls hP hh hS hl => lv_lor C.1 C.2.1 hdg (k H locs ls hP hh hS hl)
theorem q_idiv (C : qC g cc own nL p s m meth c) {x y : Int32} (hdg : decode cc pc = .ok (.idiv, 1)) (hne : ¬ y = 0) (k : qR g N hz nL p l e R s m args below meth c cells slots Q M (pc + 1) lv (.int (x / y) :: rest)) : qR g N hz nL p l e R s m args below meth c cells slots Q M pc lv (.int y :: .int x :: rest) :=
  fun H locs ls hP hh hS hl => lv_idiv C.1 C.2.1 hdg hne (k H locs ls hP hh hS hl)
theorem q_irem (C : qC g cc own nL p s m meth c) {x y : Int32} (hdg : decode cc pc = .ok (.irem, 1)) (hne : ¬ y = 0) (k : qR g N hz nL p l e R s m args below meth c cells slots Q M (pc + 1) lv (.int (x - x / y * y) :: rest)) : qR g N hz nL p l e R s m args below meth c cells slots Q M pc lv (.int y :: .int x :: rest) :=
  fun H locs ls hP hh hS hl => lv_irem C.1 C.2.1 hdg hne (k H locs ls hP hh hS hl)
theorem q_ldiv (C : qC g cc own nL p s m meth c) {x y : Int64} (hdg : decode cc pc = .ok (.ldiv, 1)) (hne : ¬ y = 0) (k : qR g N hz nL p l e R s m args below meth c cells slots Q M (pc + 1) lv (.long (x / y) :: rest)) : qR g N hz nL p l e R s m args below meth c cells slots Q M pc lv (.long y :: .long x :: rest) :=
  fun H locs ls hP hh hS hl => lv_ldiv C.1 C.2.1 hdg hne (k H locs ls hP hh hS hl)
theorem q_lrem (C : qC g cc own nL p s m meth c) {x y : Int64} (hdg : decode cc pc = .ok (.lrem, 1)) (hne : ¬ y = 0) (k : qR g N hz nL p l e R s m args below meth c cells slots Q M (pc + 1) lv (.long (x - x / y * y) :: rest)) : qR g N hz nL p l e R s m args below meth c cells slots Q M pc lv (.long y :: .long x :: rest) :=
  fun H locs ls hP hh hS hl => lv_lrem C.1 C.2.1 hdg hne (k H locs ls hP hh hS hl)
theorem q_lcmp (C : qC g cc own nL p s m meth c) {x y : Int64} (hdg : decode cc pc = .ok (.lcmp, 1)) (k : qR g N hz nL p l e R s m args below meth c cells slots Q M (pc + 1) lv (.int (lg_cmp x y) :: rest)) : qR g N hz nL p l e R s m args below meth c cells slots Q M pc lv (.long y :: .long x :: rest) :=
  fun H locs ls hP hh hS hl => W.lcmp C.1 C.2.1 hdg (k H locs ls hP hh hS hl)
theorem q_i2l (C : qC g cc own nL p s m meth c) {x : Int32} {v : Int64} (hdg : decode cc pc = .ok (.i2l, 1)) (hv : x.toInt64 = v) (k : qR g N hz nL p l e R s m args below meth c cells slots Q M (pc + 1) lv (.long v :: rest)) : qR g N hz nL p l e R s m args below meth c cells slots Q M pc lv (.int x :: rest) :=
  fun H locs ls hP hh hS hl => lv_i2l C.1 C.2.1 hdg hv (k H locs ls hP hh hS hl)
theorem q_l2i (C : qC g cc own nL p s m meth c) {x : Int64} {v : Int32} (hdg : decode cc pc = .ok (.l2i, 1)) (hv : x.toInt32 = v) (k : qR g N hz nL p l e R s m args below meth c cells slots Q M (pc + 1) lv (.int v :: rest)) : qR g N hz nL p l e R s m args below meth c cells slots Q M pc lv (.long x :: rest) :=
  fun H locs ls hP hh hS hl => lv_l2i C.1 C.2.1 hdg hv (k H locs ls hP hh hS hl)
theorem q_i2c (C : qC g cc own nL p s m meth c) {x : Int32} {v : Int32} (hdg : decode cc pc = .ok (.i2c, 1)) (hv : (x.toUInt32 % 65536).toInt32 = v) (k : qR g N hz nL p l e R s m args below meth c cells slots Q M (pc + 1) lv (.int v :: rest)) : qR g N hz nL p l e R s m args below meth c cells slots Q M pc lv (.int x :: rest) :=
  fun H locs ls hP hh hS hl => lv_i2c C.1 C.2.1 hdg hv (k H locs ls hP hh hS hl)
theorem q_lushr (C : qC g cc own nL p s m meth c) {x v : Int64} {y : Int32} (hdg : decode cc pc = .ok (.lushr, 1)) (hv : (x.toUInt64 >>> (y.toInt64.toUInt64 &&& Int64.toUInt64 63)).toInt64 = v) (k : qR g N hz nL p l e R s m args below meth c cells slots Q M (pc + 1) lv (.long v :: rest)) : qR g N hz nL p l e R s m args below meth c cells slots Q M pc lv (.int y :: .long x :: rest) :=
  fun H locs ls hP hh hS hl => lv_lushr C.1 C.2.1 hdg hv (k H locs ls hP hh hS hl)
theorem q_lshl (C : qC g cc own nL p s m meth c) {x v : Int64} {y : Int32} (hdg : decode cc pc = .ok (.lshl, 1)) (hv : x <<< (y.toInt64 &&& 63) = v) (k : qR g N hz nL p l e R s m args below meth c cells slots Q M (pc + 1) lv (.long v :: rest)) : qR g N hz nL p l e R s m args below meth c cells slots Q M pc lv (.int y :: .long x :: rest) :=
  fun H locs ls hP hh hS hl => lv_lshl C.1 C.2.1 hdg hv (k H locs ls hP hh hS hl)
theorem q_dup (C : qC g cc own nL p s m meth c) {va : Value} (hdg : decode cc pc = .ok (.dup, 1)) (hva : va.category = 1) (k : qR g N hz nL p l e R s m args below meth c cells slots Q M (pc + 1) lv (va :: va :: rest)) : qR g N hz nL p l e R s m args below meth c cells slots Q M pc lv (va :: rest) :=
  fun H locs ls hP hh hS hl => lv_dup C.1 C.2.1 hdg hva (k H locs ls hP hh hS hl)
theorem q_dup2 (C : qC g cc own nL p s m meth c) {va vb : Value} (hdg : decode cc pc = .ok (.dup2, 1)) (hva : va.category = 1) (hvb : vb.category = 1) (k : qR g N hz nL p l e R s m args below meth c cells slots Q M (pc + 1) lv (va :: vb :: va :: vb :: rest)) : qR g N hz nL p l e R s m args below meth c cells slots Q M pc lv (va :: vb :: rest) :=
  fun H locs ls hP hh hS hl => lv_dup2_11 C.1 C.2.1 hdg hva hvb (k H locs ls hP hh hS hl)
theorem q_pop (C : qC g cc own nL p s m meth c) {va : Value} (hdg : decode cc pc = .ok (.pop, 1)) (hva : va.category = 1) (k : qR g N hz nL p l e R s m args below meth c cells slots Q M (pc + 1) lv rest) : qR g N hz nL p l e R s m args below meth c cells slots Q M pc lv (va :: rest) :=
  fun H locs ls hP hh hS hl => lv_pop C.1 C.2.1 hdg hva (k H locs ls hP hh hS hl)
theorem q_goto (C : qC g cc own nL p s m meth c) {off : Int} {tgt : Nat} (hdg : decode cc pc = .ok (.goto off, 3)) (ht : (pc : Int) + off = (tgt : Int)) (k : qR g N hz nL p l e R s m args below meth c cells slots Q M tgt lv rest) : qR g N hz nL p l e R s m args below meth c cells slots Q M pc lv rest :=
  fun H locs ls hP hh hS hl => lv_goto C.1 C.2.1 hdg ht (k H locs ls hP hh hS hl)
theorem q_if_eq (C : qC g cc own nL p s m meth c) {x : Int32} {off : Int} {tgt : Nat} {α : Type} {A B r : α} (h : (if x = 0 then A else B) = r) (hdg : decode cc pc = .ok (.ifCond .eq off, 3)) (ht : (pc : Int) + off = (tgt : Int)) (kt : A = r → qR g N hz nL p l e R s m args below meth c cells slots Q M tgt lv rest) (kf : B = r → qR g N hz nL p l e R s m args below meth c cells slots Q M (pc + 3) lv rest) : qR g N hz nL p l e R s m args below meth c cells slots Q M pc lv (.int x :: rest) :=
  fun H locs ls hP hh hS hl => lv_if_eq C.1 C.2.1 hdg ht (fun q => kt (by rw [← h, if_pos q]) H locs ls hP hh hS hl) (fun q => kf (by rw [← h]; first | rw [if_neg q] | rw [if_neg (fun z => z q)]) H locs ls hP hh hS hl)
theorem q_if_ne (C : qC g cc own nL p s m meth c) {x : Int32} {off : Int} {tgt : Nat} {α : Type} {A B r : α} (h : (if ¬ x = 0 then A else B) = r) (hdg : decode cc pc = .ok (.ifCond .ne off, 3)) (ht : (pc : Int) + off = (tgt : Int)) (kt : A = r → qR g N hz nL p l e R s m args below meth c cells slots Q M tgt lv rest) (kf : B = r → qR g N hz nL p l e R s m args below meth c cells slots Q M (pc + 3) lv rest) : qR g N hz nL p l e R s m args below meth c cells slots Q M pc lv (.int x :: rest) :=
  fun H locs ls hP hh hS hl => lv_if_ne C.1 C.2.1 hdg ht (fun q => kt (by rw [← h, if_pos q]) H locs ls hP hh hS hl) (fun q => kf (by rw [← h]; first | rw [if_neg q] | rw [if_neg (fun z => z q)]) H locs ls hP hh hS hl)
theorem q_if_lt (C : qC g cc own nL p s m meth c) {x : Int32} {off : Int} {tgt : Nat} {α : Type} {A B r : α} (h : (if x < 0 then A else B) = r) (hdg : decode cc pc = .ok (.ifCond .lt off, 3)) (ht : (pc : Int) + off = (tgt : Int)) (kt : A = r → qR g N hz nL p l e R s m args below meth c cells slots Q M tgt lv rest) (kf : B = r → qR g N hz nL p l e R s m args below meth c cells slots Q M (pc + 3) lv rest) : qR g N hz nL p l e R s m args below meth c cells slots Q M pc lv (.int x :: rest) :=
  fun H locs ls hP hh hS hl => lv_if_lt C.1 C.2.1 hdg ht (fun q => kt (by rw [← h, if_pos q]) H locs ls hP hh hS hl) (fun q => kf (by rw [← h]; first | rw [if_neg q] | rw [if_neg (fun z => z q)]) H locs ls hP hh hS hl)
theorem q_if_ge (C : qC g cc own nL p s m meth c) {x : Int32} {off : Int} {tgt : Nat} {α : Type} {A B r : α} (h : (if 0 ≤ x then A else B) = r) (hdg : decode cc pc = .ok (.ifCond .ge off, 3)) (ht : (pc : Int) + off = (tgt : Int)) (kt : A = r → qR g N hz nL p l e R s m args below meth c cells slots Q M tgt lv rest) (kf : B = r → qR g N hz nL p l e R s m args below meth c cells slots Q M (pc + 3) lv rest) : qR g N hz nL p l e R s m args below meth c cells slots Q M pc lv (.int x :: rest) :=
  fun H locs ls hP hh hS hl => lv_if_ge C.1 C.2.1 hdg ht (fun q => kt (by rw [← h, if_pos q]) H locs ls hP hh hS hl) (fun q => kf (by rw [← h]; first | rw [if_neg q] | rw [if_neg (fun z => z q)]) H locs ls hP hh hS hl)
theorem q_if_gt (C : qC g cc own nL p s m meth c) {x : Int32} {off : Int} {tgt : Nat} {α : Type} {A B r : α} (h : (if 0 < x then A else B) = r) (hdg : decode cc pc = .ok (.ifCond .gt off, 3)) (ht : (pc : Int) + off = (tgt : Int)) (kt : A = r → qR g N hz nL p l e R s m args below meth c cells slots Q M tgt lv rest) (kf : B = r → qR g N hz nL p l e R s m args below meth c cells slots Q M (pc + 3) lv rest) : qR g N hz nL p l e R s m args below meth c cells slots Q M pc lv (.int x :: rest) :=
  fun H locs ls hP hh hS hl => lv_if_gt C.1 C.2.1 hdg ht (fun q => kt (by rw [← h, if_pos q]) H locs ls hP hh hS hl) (fun q => kf (by rw [← h]; first | rw [if_neg q] | rw [if_neg (fun z => z q)]) H locs ls hP hh hS hl)
theorem q_if_le (C : qC g cc own nL p s m meth c) {x : Int32} {off : Int} {tgt : Nat} {α : Type} {A B r : α} (h : (if x ≤ 0 then A else B) = r) (hdg : decode cc pc = .ok (.ifCond .le off, 3)) (ht : (pc : Int) + off = (tgt : Int)) (kt : A = r → qR g N hz nL p l e R s m args below meth c cells slots Q M tgt lv rest) (kf : B = r → qR g N hz nL p l e R s m args below meth c cells slots Q M (pc + 3) lv rest) : qR g N hz nL p l e R s m args below meth c cells slots Q M pc lv (.int x :: rest) :=
  fun H locs ls hP hh hS hl => lv_if_le C.1 C.2.1 hdg ht (fun q => kt (by rw [← h, if_pos q]) H locs ls hP hh hS hl) (fun q => kf (by rw [← h]; first | rw [if_neg q] | rw [if_neg (fun z => z q)]) H locs ls hP hh hS hl)
theorem q_icmp_eq (C : qC g cc own nL p s m meth c) {x y : Int32} {off : Int} {tgt : Nat} {α : Type} {A B r : α} (h : (if x = y then A else B) = r) (hdg : decode cc pc = .ok (.if_icmp .eq off, 3)) (ht : (pc : Int) + off = (tgt : Int)) (kt : A = r → qR g N hz nL p l e R s m args below meth c cells slots Q M tgt lv rest) (kf : B = r → qR g N hz nL p l e R s m args below meth c cells slots Q M (pc + 3) lv rest) : qR g N hz nL p l e R s m args below meth c cells slots Q M pc lv (.int y :: .int x :: rest) :=
  fun H locs ls hP hh hS hl => lv_icmp_eq C.1 C.2.1 hdg ht (fun q => kt (by rw [← h, if_pos q]) H locs ls hP hh hS hl) (fun q => kf (by rw [← h]; first | rw [if_neg q] | rw [if_neg (fun z => z q)]) H locs ls hP hh hS hl)
theorem q_icmp_ne (C : qC g cc own nL p s m meth c) {x y : Int32} {off : Int} {tgt : Nat} {α : Type} {A B r : α} (h : (if ¬ x = y then A else B) = r) (hdg : decode cc pc = .ok (.if_icmp .ne off, 3)) (ht : (pc : Int) + off = (tgt : Int)) (kt : A = r → qR g N hz nL p l e R s m args below meth c cells slots Q M tgt lv rest) (kf : B = r → qR g N hz nL p l e R s m args below meth c cells slots Q M (pc + 3) lv rest) : qR g N hz nL p l e R s m args below meth c cells slots Q M pc lv (.int y :: .int x :: rest) :=
  fun H locs ls hP hh hS hl => lv_icmp_ne C.1 C.2.1 hdg ht (fun q => kt (by rw [← h, if_pos q]) H locs ls hP hh hS hl) (fun q => kf (by rw [← h]; first | rw [if_neg q] | rw [if_neg (fun z => z q)]) H locs ls hP hh hS hl)
theorem q_icmp_lt (C : qC g cc own nL p s m meth c) {x y : Int32} {off : Int} {tgt : Nat} {α : Type} {A B r : α} (h : (if x < y then A else B) = r) (hdg : decode cc pc = .ok (.if_icmp .lt off, 3)) (ht : (pc : Int) + off = (tgt : Int)) (kt : A = r → qR g N hz nL p l e R s m args below meth c cells slots Q M tgt lv rest) (kf : B = r → qR g N hz nL p l e R s m args below meth c cells slots Q M (pc + 3) lv rest) : qR g N hz nL p l e R s m args below meth c cells slots Q M pc lv (.int y :: .int x :: rest) :=
  fun H locs ls hP hh hS hl => lv_icmp_lt C.1 C.2.1 hdg ht (fun q => kt (by rw [← h, if_pos q]) H locs ls hP hh hS hl) (fun q => kf (by rw [← h]; first | rw [if_neg q] | rw [if_neg (fun z => z q)]) H locs ls hP hh hS hl)
theorem q_icmp_ge (C : qC g cc own nL p s m meth c) {x y : Int32} {off : Int} {tgt : Nat} {α : Type} {A B r : α} (h : (if y ≤ x then A else B) = r) (hdg : decode cc pc = .ok (.if_icmp .ge off, 3)) (ht : (pc : Int) + off = (tgt : Int)) (kt : A = r → qR g N hz nL p l e R s m args below meth c cells slots Q M tgt lv rest) (kf : B = r → qR g N hz nL p l e R s m args below meth c cells slots Q M (pc + 3) lv rest) : qR g N hz nL p l e R s m args below meth c cells slots Q M pc lv (.int y :: .int x :: rest) :=
  fun H locs ls hP hh hS hl => lv_icmp_ge C.1 C.2.1 hdg ht (fun q => kt (by rw [← h, if_pos q]) H locs ls hP hh hS hl) (fun q => kf (by rw [← h]; first | rw [if_neg q] | rw [if_neg (fun z => z q)]) H locs ls hP hh hS hl)
theorem q_icmp_gt (C : qC g cc own nL p s m meth c) {x y : Int32} {off : Int} {tgt : Nat} {α : Type} {A B r : α} (h : (if y < x then A else B) = r) (hdg : decode cc pc = .ok (.if_icmp .gt off, 3)) (ht : (pc : Int) + off = (tgt : Int)) (kt : A = r → qR g N hz nL p l e R s m args below meth c cells slots Q M tgt lv rest) (kf : B = r → qR g N hz nL p l e R s m args below meth c cells slots Q M (pc + 3) lv rest) : qR g N hz nL p l e R s m args below meth c cells slots Q M pc lv (.int y :: .int x :: rest) :=
  fun H locs ls hP hh hS hl => lv_icmp_gt C.1 C.2.1 hdg ht (fun q => kt (by rw [← h, if_pos q]) H locs ls hP hh hS hl) (fun q => kf (by rw [← h]; first | rw [if_neg q] | rw [if_neg (fun z => z q)]) H locs ls hP hh hS hl)
theorem q_icmp_le (C : qC g cc own nL p s m meth c) {x y : Int32} {off : Int} {tgt : Nat} {α : Type} {A B r : α} (h : (if x ≤ y then A else B) = r) (hdg : decode cc pc = .ok (.if_icmp .le off, 3)) (ht : (pc : Int) + off = (tgt : Int)) (kt : A = r → qR g N hz nL p l e R s m args below meth c cells slots Q M tgt lv rest) (kf : B = r → qR g N hz nL p l e R s m args below meth c cells slots Q M (pc + 3) lv rest) : qR g N hz nL p l e R s m args below meth c cells slots Q M pc lv (.int y :: .int x :: rest) :=
  fun H locs ls hP hh hS hl => lv_icmp_le C.1 C.2.1 hdg ht (fun q => kt (by rw [← h, if_pos q]) H locs ls hP hh hS hl) (fun q => kf (by rw [← h]; first | rw [if_neg q] | rw [if_neg (fun z => z q)]) H locs ls hP hh hS hl)
theorem q_tableOut (C : qC g cc own nL p s m meth c) {dflt lo hi : Int} {offs : Array Int} {len : Nat} {x : Int32} {tgt : Nat} (hdg : decode cc pc = .ok (.tableswitch dflt lo hi offs, len)) (h : x.toInt < lo ∨ hi < x.toInt) (ht : (pc : Int) + dflt = (tgt : Int)) (k : qR g N hz nL p l e R s m args below meth c cells slots Q M tgt lv rest) : qR g N hz nL p l e R s m args below meth c cells slots Q M pc lv (.int x :: rest) :=
  fun H locs ls hP hh hS hl => lv_tableOut C.1 C.2.1 hdg h ht (k H locs ls hP hh hS hl)
theorem q_tableIn (C : qC g cc own nL p s m meth c) {dflt lo hi : Int} {offs : Array Int} {len : Nat} {x : Int32} {off : Int} {tgt : Nat} (hdg : decode cc pc = .ok (.tableswitch dflt lo hi offs, len)) (h1 : ¬ x.toInt < lo) (h2 : ¬ hi < x.toInt) (ho : offs[(x.toInt - lo).toNat]? = some off) (ht : (pc : Int) + off = (tgt : Int)) (k : qR g N hz nL p l e R s m args below meth c cells slots Q M tgt lv rest) : qR g N hz nL p l e R s m args below meth c cells slots Q M pc lv (.int x :: rest) :=
  fun H locs ls hP hh hS hl => lv_tableIn C.1 C.2.1 hdg h1 h2 ho ht (k H locs ls hP hh hS hl)
theorem q_lookup (C : qC g cc own nL p s m meth c) {dflt : Int} {ps : Array (Int × Int)} {len : Nat} {x : Int32} {off : Int} {tgt : Nat} (hdg : decode cc pc = .ok (.lookupswitch dflt ps, len)) (hp : (ps.toList.zip (ps.toList.drop 1)).all (fun (a, next) => a.1 < next.1) = true) (ho : Op.lookupswitch.offset ps.toList dflt x.toInt = off) (ht : (pc : Int) + off = (tgt : Int)) (k : qR g N hz nL p l e R s m args below meth c cells slots Q M tgt lv rest) : qR g N hz nL p l e R s m args below meth c cells slots Q M pc lv (.int x :: rest) :=
  fun H locs ls hP hh hS hl => lv_lookup C.1 C.2.1 hdg hp ho ht (k H locs ls hP hh hS hl)
theorem qC.K (C : qC g cc own nL p s m meth c) : va_K g.1 vwCl (qty g) s := C.2.2.2.2.2.1.2.1
theorem qcl_w : ∀ q ∈ vwCl, ∀ w ∈ u_ws q.1 q.2.1 q.2.2, qw w := by
  unfold qw
  decide +kernel
theorem qcl_t : ∀ (ci : Nat) (q : vw_C), vwCl[ci]? = some q → ∃ ty0 : Nat → FieldType, (∀ k, k < q.2.2 → parseFieldDescriptor (q.2.1 k).2.2.1 = some (ty0 k)) ∧ (∀ a, a < q.2.2 → ∀ b, b < q.2.2 → a ≠ b → (q.2.1 a).2.1 ≠ (q.2.1 b).2.1) := by
  intro ci q h
  match ci, h with
  | 0, h => cases h; exact ⟨tyX0, tyX0_ok, nmX0⟩
  | 1, h => cases h; exact ⟨tyX1, tyX1_ok, nmX1⟩
  | 2, h => cases h; exact ⟨tyX2, tyX2_ok, nmX2⟩
  | 3, h => cases h; exact ⟨tyX3, tyX3_ok, nmX3⟩
  | 4, h => cases h; exact ⟨tyX4, tyX4_ok, nmX4⟩
  | 5, h => cases h; exact ⟨tyX5, tyX5_ok, nmX5⟩
  | 6, h => cases h; exact ⟨tyX6, tyX6_ok, nmX6⟩
  | 7, h => cases h; exact ⟨tyX7, tyX7_ok, nmX7⟩
  | 8, h => cases h; exact ⟨tyX8, tyX8_ok, nmX8⟩
  | k + 9, h => simp [vwCl] at h
theorem qcl_ts (C : qC g cc own nL p s m meth c) {ci : Nat} {q : vw_C} (hc : vwCl[ci]? = some q) : ∀ w ∈ u_ws q.1 q.2.1 q.2.2, w.before args s = true := fun w hw => C.w (qcl_w q (List.mem_of_getElem? hc) w hw)
theorem q_get (C : qC g cc own nL p s m meth c) {o ci k index : Nat} {fs : List Value} {v : Value} {q : vw_C} (ho : o < N) (hM : M o = .inr (ci, fs)) (hc : vwCl[ci]? = some q) (hk : k < q.2.2) (hv : fs[k]? = some v) (hlk : qw (.fieldLink own index (q.2.1 k).1 (q.2.1 k).2.1 (q.2.1 k).2.2.1)) (hdg : decode cc pc = .ok (.getfield index, 3)) (kk : qR g N hz nL p l e R s m args below meth c cells slots Q M (pc + 3) lv (v :: rest)) : qR g N hz nL p l e R s m args below meth c cells slots Q M pc lv (.ref (qa g o) :: rest) :=
  fun H locs ls hP hh hS hl => va_get (D := g.1) (C := q.1) (T := q.2.1) (N := q.2.2) (ci := ci) C.1 C.2.1 (Ts := u_ws q.1 q.2.1 q.2.2) (qcl_ts C hc) (fun w hw => hw) C.2.2.2.1 C.K hP o (fs := fs) (by rw [qW_at ho, hM]) hc k hk (C.w hlk) (fun _ h9 => h9) hv hdg (kk H locs ls hP hh hS hl)
theorem q_put (C : qC g cc own nL p s m meth c) {o ci k index : Nat} {fs : List Value} {v : Value} {q : vw_C} (ho : o < N) (hM : M o = .inr (ci, fs)) (hc : vwCl[ci]? = some q) (hk : k < q.2.2) (hlk : qw (.fieldLink own index (q.2.1 k).1 (q.2.1 k).2.1 (q.2.1 k).2.2.1)) (hfin : (q.2.1 k).2.2.2 = false) {ty : FieldType} (hd : parseFieldDescriptor (q.2.1 k).2.2.1 = some ty) (hn : narrow ty v = v) (hfit : fits ty v = true) (hl9 : k < fs.length) (hdg : decode cc pc = .ok (.putfield index, 3)) (kk : qR g N hz nL p l e R s m args below meth c cells slots Q (va_up M o (.inr (ci, fs.set k v))) (pc + 3) lv rest) : qR g N hz nL p l e R s m args below meth c cells slots Q M pc lv (v :: .ref (qa g o) :: rest) := by
  intro H locs ls hP hh hS0 hl0
  have hts := qcl_ts (args := args) C hc
  obtain ⟨ty0, hty, hnm⟩ := qcl_t ci q hc
  have hap := va_apart (own := own) hts (fun w hw => hw) ty0 hty hnm C.K hc
  have hD := qW_D g N M
  have he : (qW g N M)[o]? = some (qa g o, .inr (ci, fs)) := by rw [qW_at ho, hM]
  obtain ⟨r, h1, cell, q1, q2, q3, q4⟩ := hP o _ he
  have hr : r = q := Option.some.inj (h1.symm.trans hc)
  subst hr
  obtain ⟨hS, hfc, kC, hkC, hkind⟩ := C.K.1 ci _ hc
  obtain ⟨cf, kf, fi, f, hi, hsl⟩ := hS k hk
  have hlay := hts _ (u_in_lay hk)
  unfold u_lay at hlay
  rw [if_neg (by rw [hfin]; decide)] at hlay
  have hst := (u_facts hfc hkC (u_lays hts (fun w hw => hw) hk) hi).1
  have h6 := u_store hfc hkC hkind hlay hi hd hn hfit
  refine W.putK C.1 C.2.1 (f := f) ⟨C.2.2.2.1, C.w hlk, ⟨_, _, _, hi⟩, hst⟩ (by rw [q2]; exact h6) q1 q3 (by rw [hsl]; exact k2_hasslot (q4 k hk)) rfl rfl hdg fun H' e1 e2 e3 => ?_
  rw [hsl] at e1 ⊢
  have hP' : va_P g.1 vwCl ((qW g N M).set o (qa g o, .inr (ci, fs.set k v))) H' := hP.set hD he ⟨_, hc, t_OB.to (V := updV (vp_V fs) k v) ⟨_, e1, q2, q3, t_set q4 hap hk v⟩ (fun j _ => vp_updV_set hl9 v j)⟩ e3
  rw [qW_set ho] at hP'
  exact kk H' _ ls hP' (by rw [e2]; exact hh) (hS0.put e2 e3 (hD.2 o _ he)) hl0
theorem q_putF (C : qC g cc own nL p s m meth c) {o ci k index : Nat} {fs : List Value} {v : Value} {q : vw_C} (ho : o < N) (hM : M o = .inr (ci, fs)) (hc : vwCl[ci]? = some q) (hk : k < q.2.2) (hlk : qw (.fieldLink own index (q.2.1 k).1 (q.2.1 k).2.1 (q.2.1 k).2.2.1)) (hfin : (q.2.1 k).2.2.2 = true) (hin2 : meth.name = "<init>") (hdecl : (q.2.1 k).1 = own) {ty : FieldType} (hd : parseFieldDescriptor (q.2.1 k).2.2.1 = some ty) (hn : narrow ty v = v) (hfit : fits ty v = true) (hl9 : k < fs.length) (hdg : decode cc pc = .ok (.putfield index, 3)) (kk : qR g N hz nL p l e R s m args below meth c cells slots Q (va_up M o (.inr (ci, fs.set k v))) (pc + 3) lv rest) : qR g N hz nL p l e R s m args below meth c cells slots Q M pc lv (v :: .ref (qa g o) :: rest) := by
  intro H locs ls hP hh hS0 hl0
  have hts := qcl_ts (args := args) C hc
  obtain ⟨ty0, hty, hnm⟩ := qcl_t ci q hc
  have hap := va_apart (own := own) hts (fun w hw => hw) ty0 hty hnm C.K hc
  have hD := qW_D g N M
  have he : (qW g N M)[o]? = some (qa g o, .inr (ci, fs)) := by rw [qW_at ho, hM]
  obtain ⟨r, h1, cell, q1, q2, q3, q4⟩ := hP o _ he
  have hr : r = q := Option.some.inj (h1.symm.trans hc)
  subst hr
  obtain ⟨hS, hfc, kC, hkC, hkind⟩ := C.K.1 ci _ hc
  obtain ⟨cf, kf, fi, f, hi, hsl⟩ := hS k hk
  have hlay := hts _ (u_in_lay hk)
  unfold u_lay at hlay
  rw [if_pos hfin] at hlay
  have hst := (u_facts hfc hkC (u_lays hts (fun w hw => hw) hk) hi).1
  have hcf : m.cls = cf := by
    obtain ⟨_, _, c', _, _, _, -, -, hf', -, -, -, hown2, -⟩ := Cond.laysFinal_spec hlay
    have e1 : c' = cf := by have := hi.symm.trans hf'; simp at this; exact this.1.symm
    rw [hdecl] at hown2
    rw [← e1]; exact Option.some.inj (C.2.2.2.1.symm.trans hown2)
  have h6 := u_fits hfc hkC hkind (Or.inr hlay) hi hd hn hfit
  refine W.putFinK C.1 C.2.1 C.2.2.2.1 (C.w hlk) hi hst hcf hin2 (by rw [q2]; exact h6) q1 q3 (by rw [hsl]; exact k2_hasslot (q4 k hk)) rfl rfl hdg fun H' e1 e2 e3 => ?_
  rw [hsl] at e1 ⊢
  have hP' : va_P g.1 vwCl ((qW g N M).set o (qa g o, .inr (ci, fs.set k v))) H' := hP.set hD he ⟨_, hc, t_OB.to (V := updV (vp_V fs) k v) ⟨_, e1, q2, q3, t_set q4 hap hk v⟩ (fun j _ => vp_updV_set hl9 v j)⟩ e3
  rw [qW_set ho] at hP'
  exact kk H' _ ls hP' (by rw [e2]; exact hh) (hS0.put e2 e3 (hD.2 o _ he)) hl0
/-- an index within, as a test -/
def qin (i : Int32) (n : Nat) : Bool := decide (0 ≤ i) && decide (i.toNatClampNeg < n)
theorem qin_vp {i : Int32} {n : Nat} (h : qin i n = true) : vp_in i n := by
  simp only [qin, Bool.and_eq_true, decide_eq_true_eq] at h
  rintro (q | q)
  · have h1 := Int32.lt_iff_toInt_lt.mp q
    have h2 := Int32.le_iff_toInt_le.mp h.1
    omega
  · omega
theorem q_if {α : Type} {b : Bool} {A : Option α} {r : α} (h : (if b = true then A else none) = some r) : b = true ∧ A = some r := by
  by_cases hb : b = true
  · rw [if_pos hb] at h; exact ⟨hb, h⟩
  · rw [if_neg hb] at h; cases h
theorem q_iald (C : qC g cc own nL p s m meth c) {o n : Nat} {f : Nat → Int32} {i : Int32} (ho : o < N) (hM : M o = .inl (g.2.2.1 0, n, .inl f)) (hin : qin i n = true) (hdg : decode cc pc = .ok (.iaload, 1)) (kk : qR g N hz nL p l e R s m args below meth c cells slots Q M (pc + 1) lv (.int (f i.toNatClampNeg) :: rest)) : qR g N hz nL p l e R s m args below meth c cells slots Q M pc lv (.int i :: .ref (qa g o) :: rest) :=
  fun H locs ls hP hh hS hl => va_iald C.1 C.2.1 C.K hP o 0 (f := f) (n := n) (cA := g.2.2.1 0) (by rw [qW_at ho, hM]) rfl (qin_vp hin) hdg (kk H locs ls hP hh hS hl)
theorem q_zald (C : qC g cc own nL p s m meth c) {o n : Nat} {f : Nat → Int32} {i : Int32} (ho : o < N) (hM : M o = .inl (g.2.2.1 1, n, .inl f)) (hin : qin i n = true) (hdg : decode cc pc = .ok (.baload, 1)) (kk : qR g N hz nL p l e R s m args below meth c cells slots Q M (pc + 1) lv (.int (f i.toNatClampNeg) :: rest)) : qR g N hz nL p l e R s m args below meth c cells slots Q M pc lv (.int i :: .ref (qa g o) :: rest) :=
  fun H locs ls hP hh hS hl => va_zald C.1 C.2.1 C.K hP o 1 (f := f) (n := n) (cA := g.2.2.1 1) (by rw [qW_at ho, hM]) rfl (qin_vp hin) hdg (kk H locs ls hP hh hS hl)
theorem q_cald (C : qC g cc own nL p s m meth c) {o n : Nat} {f : Nat → Int32} {i : Int32} (ho : o < N) (hM : M o = .inl (g.2.2.1 2, n, .inl f)) (hin : qin i n = true) (hdg : decode cc pc = .ok (.caload, 1)) (kk : qR g N hz nL p l e R s m args below meth c cells slots Q M (pc + 1) lv (.int (f i.toNatClampNeg) :: rest)) : qR g N hz nL p l e R s m args below meth c cells slots Q M pc lv (.int i :: .ref (qa g o) :: rest) :=
  fun H locs ls hP hh hS hl => va_cald C.1 C.2.1 C.K hP o 2 (f := f) (n := n) (cA := g.2.2.1 2) (by rw [qW_at ho, hM]) rfl (qin_vp hin) hdg (kk H locs ls hP hh hS hl)
theorem q_iast (C : qC g cc own nL p s m meth c) {o n : Nat} {f : Nat → Int32} {i x : Int32} (ho : o < N) (hM : M o = .inl (g.2.2.1 0, n, .inl f)) (hin : qin i n = true) (hdg : decode cc pc = .ok (.iastore, 1)) (kk : qR g N hz nL p l e R s m args below meth c cells slots Q (va_up M o (.inl (g.2.2.1 0, n, .inl (upd f i.toNatClampNeg x)))) (pc + 1) lv rest) : qR g N hz nL p l e R s m args below meth c cells slots Q M pc lv (.int x :: .int i :: .ref (qa g o) :: rest) := by
  intro H locs ls hP hh hS hl
  have hD := qW_D g N M
  have ha : (qW g N M)[o]? = some (qa g o, .inl (g.2.2.1 0, n, .inl f)) := by rw [qW_at ho, hM]
  refine W.iast C.1 C.2.1 (hP o _ ha) ((C.K.2 0 _ rfl).1 n (fun j => .int (f j))) (fun q => by cases q) (by show ¬ (i < 0 ∨ (arrV _ _ _).slots.size ≤ _); rw [arrV_size]; exact qin_vp hin) rfl rfl hdg fun H1 e z oq => ?_
  have hP' : va_P g.1 vwCl ((qW g N M).set o (qa g o, .inl (g.2.2.1 0, n, .inl (upd f i.toNatClampNeg x)))) H1 := by
    refine hP.set hD ha ?_ oq
    show H1[qa g o]? = some (vp_cell _ _)
    rw [e, vp_cell_i, vp_cell_i, arrV_store]
    congr 2
    funext q
    by_cases hq : q = i.toNatClampNeg
    · subst hq
      simp [updV, upd, vp_nar]
      try rfl
    · simp [updV, upd, hq]
  rw [qW_set ho] at hP'
  exact kk H1 _ ls hP' (by rw [z]; exact hh) (hS.put z oq (hD.2 o _ ha)) hl
theorem q_zast (C : qC g cc own nL p s m meth c) {o n : Nat} {f : Nat → Int32} {i x : Int32} (ho : o < N) (hM : M o = .inl (g.2.2.1 1, n, .inl f)) (hin : qin i n = true) (hdg : decode cc pc = .ok (.bastore, 1)) (kk : qR g N hz nL p l e R s m args below meth c cells slots Q (va_up M o (.inl (g.2.2.1 1, n, .inl (upd f i.toNatClampNeg (vp_nar .boolean x))))) (pc + 1) lv rest) : qR g N hz nL p l e R s m args below meth c cells slots Q M pc lv (.int x :: .int i :: .ref (qa g o) :: rest) := by
  intro H locs ls hP hh hS hl
  have hD := qW_D g N M
  have ha : (qW g N M)[o]? = some (qa g o, .inl (g.2.2.1 1, n, .inl f)) := by rw [qW_at ho, hM]
  refine W.zast C.1 C.2.1 (hP o _ ha) ((C.K.2 1 _ rfl).1 n (fun j => .int (f j))) (fun q => by cases q) (by show ¬ (i < 0 ∨ (arrV _ _ _).slots.size ≤ _); rw [arrV_size]; exact qin_vp hin) rfl rfl hdg fun H1 e z oq => ?_
  have hP' : va_P g.1 vwCl ((qW g N M).set o (qa g o, .inl (g.2.2.1 1, n, .inl (upd f i.toNatClampNeg (vp_nar .boolean x))))) H1 := by
    refine hP.set hD ha ?_ oq
    show H1[qa g o]? = some (vp_cell _ _)
    rw [e, vp_cell_i, vp_cell_i, arrV_store]
    congr 2
    funext q
    by_cases hq : q = i.toNatClampNeg
    · subst hq
      simp [updV, upd, vp_nar]
      try rfl
    · simp [updV, upd, hq]
  rw [qW_set ho] at hP'
  exact kk H1 _ ls hP' (by rw [z]; exact hh) (hS.put z oq (hD.2 o _ ha)) hl
theorem q_cast (C : qC g cc own nL p s m meth c) {o n : Nat} {f : Nat → Int32} {i x : Int32} (ho : o < N) (hM : M o = .inl (g.2.2.1 2, n, .inl f)) (hin : qin i n = true) (hdg : decode cc pc = .ok (.castore, 1)) (kk : qR g N hz nL p l e R s m args below meth c cells slots Q (va_up M o (.inl (g.2.2.1 2, n, .inl (upd f i.toNatClampNeg (vp_nar .char x))))) (pc + 1) lv rest) : qR g N hz nL p l e R s m args below meth c cells slots Q M pc lv (.int x :: .int i :: .ref (qa g o) :: rest) := by
  intro H locs ls hP hh hS hl
  have hD := qW_D g N M
  have ha : (qW g N M)[o]? = some (qa g o, .inl (g.2.2.1 2, n, .inl f)) := by rw [qW_at ho, hM]
  refine W.cast C.1 C.2.1 (hP o _ ha) ((C.K.2 2 _ rfl).1 n (fun j => .int (f j))) (fun q => by cases q) (by show ¬ (i < 0 ∨ (arrV _ _ _).slots.size ≤ _); rw [arrV_size]; exact qin_vp hin) rfl rfl hdg fun H1 e z oq => ?_
  have hP' : va_P g.1 vwCl ((qW g N M).set o (qa g o, .inl (g.2.2.1 2, n, .inl (upd f i.toNatClampNeg (vp_nar .char x))))) H1 := by
    refine hP.set hD ha ?_ oq
    show H1[qa g o]? = some (vp_cell _ _)
    rw [e, vp_cell_i, vp_cell_i, arrV_store]
    congr 2
    funext q
    by_cases hq : q = i.toNatClampNeg
    · subst hq
      simp [updV, upd, vp_nar]
      try rfl
    · simp [updV, upd, hq]
  rw [qW_set ho] at hP'
  exact kk H1 _ ls hP' (by rw [z]; exact hh) (hS.put z oq (hD.2 o _ ha)) hl
theorem q_lald (C : qC g cc own nL p s m meth c) {o n : Nat} {f : Nat → Int64} {i : Int32} (ho : o < N) (hM : M o = .inl (g.2.2.1 3, n, .inr (.inl f))) (hin : qin i n = true) (hdg : decode cc pc = .ok (.laload, 1)) (kk : qR g N hz nL p l e R s m args below meth c cells slots Q M (pc + 1) lv (.long (f i.toNatClampNeg) :: rest)) : qR g N hz nL p l e R s m args below meth c cells slots Q M pc lv (.int i :: .ref (qa g o) :: rest) :=
  fun H locs ls hP hh hS hl => va_lald C.1 C.2.1 C.K hP o 3 (f := f) (n := n) (cA := g.2.2.1 3) (by rw [qW_at ho, hM]) rfl (qin_vp hin) hdg (kk H locs ls hP hh hS hl)
theorem q_last (C : qC g cc own nL p s m meth c) {o n : Nat} {f : Nat → Int64} {i : Int32} {x : Int64} (ho : o < N) (hM : M o = .inl (g.2.2.1 3, n, .inr (.inl f))) (hin : qin i n = true) (hz9 : hz = fun _ => True) (hdg : decode cc pc = .ok (.lastore, 1)) (kk : qR g N hz nL p l e R s m args below meth c cells slots Q (va_up M o (.inl (g.2.2.1 3, n, .inr (.inl (vp_updL f i.toNatClampNeg x))))) (pc + 1) lv rest) : qR g N hz nL p l e R s m args below meth c cells slots Q M pc lv (.long x :: .int i :: .ref (qa g o) :: rest) := by
  intro H locs ls hP hh hS hl
  refine va_last C.1 C.2.1 C.K hP (qW_D g N M) hS o 3 (f := f) (n := n) (cA := g.2.2.1 3) (by rw [qW_at ho, hM]) rfl (qin_vp hin) hdg fun H1 locs1 hP1 hD1 hS1 => ?_
  have hP1 : va_P g.1 vwCl ((qW g N M).set o (qa g o, .inl (g.2.2.1 3, n, .inr (.inl (vp_updL f i.toNatClampNeg x))))) H1 := hP1
  rw [qW_set ho] at hP1
  exact kk H1 locs1 ls hP1 (by rw [hz9]; trivial) hS1 hl
theorem q_aald (C : qC g cc own nL p s m meth c) {o n v : Nat} {f : Nat → Option Nat} {i : Int32} (ho : o < N) (hM : M o = .inl (g.2.2.1 4, n, .inr (.inr (.inr (.inr f))))) (hin : qin i n = true) (hf : f i.toNatClampNeg = some v) (hdg : decode cc pc = .ok (.aaload, 1)) (kk : qR g N hz nL p l e R s m args below meth c cells slots Q M (pc + 1) lv (.ref v :: rest)) : qR g N hz nL p l e R s m args below meth c cells slots Q M pc lv (.int i :: .ref (qa g o) :: rest) :=
  fun H locs ls hP hh hS hl => va_aldq C.1 C.2.1 C.K hP o 4 (C := RX5) (f := f) (n := n) (cA := g.2.2.1 4) (by rw [qW_at ho, hM]) rfl (qin_vp hin) hdg (by rw [hf]; exact kk H locs ls hP hh hS hl)
theorem q_aast (C : qC g cc own nL p s m meth c) {o n ci ov : Nat} {q : vw_C} {vs : List Value} {f : Nat → Option Nat} {i : Int32} (ho : o < N) (hM : M o = .inl (g.2.2.1 4, n, .inr (.inr (.inr (.inr f))))) (hov : ov < N) (hMv : M ov = .inr (ci, vs)) (hc : vwCl[ci]? = some q) (hq : q.1 = RX5) (hin : qin i n = true) (hdg : decode cc pc = .ok (.aastore, 1)) (kk : qR g N hz nL p l e R s m args below meth c cells slots Q (va_up M o (.inl (g.2.2.1 4, n, .inr (.inr (.inr (.inr (va_up f i.toNatClampNeg (some (qa g ov))))))))) (pc + 1) lv rest) : qR g N hz nL p l e R s m args below meth c cells slots Q M pc lv (.ref (qa g ov) :: .int i :: .ref (qa g o) :: rest) := by
  intro H locs ls hP hh hS hl
  have hin := qin_vp hin
  have hlt : i.toNatClampNeg < n := Nat.not_le.mp fun q => hin (Or.inr q)
  have h0 : ¬ i < 0 := fun q => hin (Or.inl q)
  have hD := qW_D g N M
  have ha : (qW g N M)[o]? = some (qa g o, .inl (g.2.2.1 4, n, .inr (.inr (.inr (.inr f))))) := by rw [qW_at ho, hM]
  obtain ⟨r', hr', cellV, g1, g2, g3, -⟩ := hP ov (qa g ov, .inr (ci, vs)) (by rw [qW_at hov, hMv])
  have hcls := (C.K.1 ci q hc).2
  obtain ⟨kA, comp, k1, k2, k3, -⟩ := (C.K.2 4 (g.2.2.1 4, .object RX5) rfl).2
  rw [← hq] at k3
  have hcomp : comp = g.1.1 ci := Option.some.inj (k3.symm.trans hcls.1)
  subst hcomp
  obtain ⟨kC, hkC, -⟩ := hcls.2
  refine W.aast C.1 C.2.1 (hP o _ ha) (fun q h => by cases h) (fun h => by cases h) k1 k2 rfl hkC ⟨h0, by show _ < (arrV _ _ _).slots.size; rw [arrV_size]; exact hlt⟩ g1 (fun q h => by rw [g3] at h; cases h) (by rw [g2]; exact hkC) (by rw [g2]; exact va_assign hcls) rfl rfl hdg fun H1 e z oq => ?_
  have hP' : va_P g.1 vwCl ((qW g N M).set o (qa g o, .inl (g.2.2.1 4, n, .inr (.inr (.inr (.inr (va_up f i.toNatClampNeg (some (qa g ov))))))))) H1 := by
    refine hP.set hD ha ?_ oq
    show H1[qa g o]? = some (vp_cell _ _)
    rw [e, vp_cell_q, vp_cell_q, arrV_store]
    congr 2
    funext q
    by_cases hq : q = i.toNatClampNeg
    · subst hq
      simp [updV, va_up, va_rf]
    · simp [updV, va_up, hq]
  rw [qW_set ho] at hP'
  exact kk H1 _ ls hP' (by rw [z]; exact hh) (hS.put z oq (hD.2 o _ ha)) hl
end QLA
