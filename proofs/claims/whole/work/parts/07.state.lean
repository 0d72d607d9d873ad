/-! THE STATE: what every place holds, as numbers: S o k is the k-th number of place o -/
abbrev qSt : Type := Nat → Nat → Int32
abbrev NL : Nat := 127
/-- kind and length of every place: 0 to 8 an object of that class, 10 ints, 11 booleans, 12 chars, 13 longs, 14 and 15 towns (that begin 1 or 2 places behind) -/
def kdl : List (Nat × Nat) := [(7, 0), (4, 0), (12, 140), (6, 0), (1, 0), (10, 140), (10, 140), (10, 140), (5, 0), (10, 21), (10, 21), (10, 21), (11, 21), (5, 0), (10, 21), (10, 21), (10, 21), (11, 21), (0, 0), (14, 14), (5, 0), (10, 21), (10, 21), (10, 21), (11, 21), (5, 0), (10, 21), (10, 21), (10, 21), (11, 21), (5, 0), (10, 21), (10, 21), (10, 21), (11, 21), (5, 0), (10, 21), (10, 21), (10, 21), (11, 21), (5, 0), (10, 21), (10, 21), (10, 21), (11, 21), (5, 0), (10, 21), (10, 21), (10, 21), (11, 21), (5, 0), (10, 21), (10, 21), (10, 21), (11, 21), (5, 0), (10, 21), (10, 21), (10, 21), (11, 21), (5, 0), (10, 21), (10, 21), (10, 21), (11, 21), (5, 0), (10, 21), (10, 21), (10, 21), (11, 21), (5, 0), (10, 21), (10, 21), (10, 21), (11, 21), (5, 0), (10, 21), (10, 21), (10, 21), (11, 21), (5, 0), (10, 21), (10, 21), (10, 21), (11, 21), (5, 0), (10, 21), (10, 21), (10, 21), (11, 21), (3, 0), (15, 2), (11, 2), (5, 0), (10, 21), (10, 21), (10, 21), (11, 21), (5, 0), (10, 21), (10, 21), (10, 21), (11, 21), (2, 0), (10, 9), (10, 9), (10, 9), (2, 0), (10, 9), (10, 9), (10, 9), (8, 0), (10, 140), (10, 84), (10, 84), (10, 84), (10, 1176), (10, 168), (11, 2), (10, 25), (10, 81), (10, 9), (10, 9), (10, 10), (10, 10), (11, 9), (13, 1)]
def kd (o : Nat) : Nat × Nat := kdl.getD o (10, 0)
/-- the fields of an object: none a number, some j the place j behind it -/
def qtm : Nat → List (Option Nat)
  | 0 => [some 1, none, none]
  | 1 => [none, some 1, some 2, some 3, none]
  | 2 => [some 1, some 2, some 3, none]
  | 3 => [some 1, some 2]
  | 4 => [some 1, none]
  | 5 => [none, none, none, none, some 1, some 2, some 3, some 4]
  | 6 => [none]
  | 7 => [some 1, some 3, some 4, some 8, some 13, some 18, some 90, some 103, some 107]
  | 8 => [none, some 1, none, none, some 2, some 3, some 4, some 5, none, some 6, some 7, some 8, some 9, some 10, some 11, none, none, none, none, some 12, some 13, some 14]
  | _ => []
def qfs (g : qG) (f : Nat → Int32) (o : Nat) : Nat → List (Option Nat) → List Value
  | _, [] => []
  | k, none :: t => .int (f k) :: qfs g f o (k + 1) t
  | k, some j :: t => .ref (qa g (o + j)) :: qfs g f o (k + 1) t
theorem qfs_len (g : qG) (f : Nat → Int32) (o : Nat) (t : List (Option Nat)) : ∀ b : Nat, (qfs g f o b t).length = t.length := by
  induction t with
  | nil => intro b; rfl
  | cons a t ih => intro b; cases a <;> simp [qfs, ih]
theorem qfs_i (g : qG) (f : Nat → Int32) (o : Nat) (t : List (Option Nat)) : ∀ (b k : Nat), t[k]? = some none → (qfs g f o b t)[k]? = some (.int (f (b + k))) := by
  induction t with
  | nil => intro b k h; simp at h
  | cons a t ih =>
    intro b k h
    cases k with
    | zero =>
      simp at h
      subst h
      simp [qfs]
    | succ k =>
      simp at h
      have h1 := ih (b + 1) k h
      rw [show b + 1 + k = b + (k + 1) by omega] at h1
      cases a <;> simpa [qfs] using h1
theorem qfs_r (g : qG) (f : Nat → Int32) (o j : Nat) (t : List (Option Nat)) : ∀ (b k : Nat), t[k]? = some (some j) → (qfs g f o b t)[k]? = some (.ref (qa g (o + j))) := by
  induction t with
  | nil => intro b k h; simp at h
  | cons a t ih =>
    intro b k h
    cases k with
    | zero =>
      simp at h
      subst h
      simp [qfs]
    | succ k =>
      simp at h
      have h1 := ih (b + 1) k h
      cases a <;> simpa [qfs] using h1
theorem qfs_congr (g : qG) (f f' : Nat → Int32) (o : Nat) (t : List (Option Nat)) : ∀ b : Nat, (∀ k, b ≤ k → f k = f' k) → qfs g f o b t = qfs g f' o b t := by
  induction t with
  | nil => intro b h; rfl
  | cons a t ih =>
    intro b h
    have h1 := ih (b + 1) (fun k hk => h k (by omega))
    cases a with
    | none => simp only [qfs]; rw [h1, h b (Nat.le_refl b)]
    | some j => simp only [qfs]; rw [h1]
theorem qfs_set (g : qG) (f : Nat → Int32) (o : Nat) (v : Int32) (t : List (Option Nat)) : ∀ (b k : Nat), t[k]? = some none → (qfs g f o b t).set k (.int v) = qfs g (upd f (b + k) v) o b t := by
  induction t with
  | nil => intro b k h; simp at h
  | cons a t ih =>
    intro b k h
    cases k with
    | zero =>
      simp at h
      subst h
      simp only [qfs, List.set_cons_zero]
      rw [qfs_congr g f (upd f (b + 0) v) o t (b + 1) (fun k hk => by simp only [upd]; rw [if_neg (by omega)])]
      simp [upd]
    | succ k =>
      simp at h
      have h1 := ih (b + 1) k h
      rw [show b + 1 + k = b + (k + 1) by omega] at h1
      cases a with
      | none =>
        simp only [qfs, List.set_cons_succ]
        rw [h1]
        simp only [upd]
        rw [if_neg (show ¬ b = b + (k + 1) by omega)]
      | some j =>
        simp only [qfs, List.set_cons_succ]
        rw [h1]
def qcell (g : qG) (f : Nat → Int32) (o : Nat) (q : Nat × Nat) : va_E :=
  if q.1 < 9 then .inr (q.1, qfs g f o 0 (qtm q.1)) else if q.1 = 10 then .inl (g.2.2.1 0, q.2, .inl f) else if q.1 = 11 then .inl (g.2.2.1 1, q.2, .inl f) else if q.1 = 12 then .inl (g.2.2.1 2, q.2, .inl f)
  else if q.1 = 13 then .inl (g.2.2.1 3, q.2, .inr (.inl fun j => (f j).toInt64)) else .inl (g.2.2.1 4, q.2, .inr (.inr (.inr (.inr fun i => some (qa g (o + (q.1 - 13) + 5 * i))))))
def qmem (g : qG) (S : qSt) (o : Nat) : va_E := qcell g (S o) o (kd o)
/-- the state with another number -/
def qup (S : qSt) (o k : Nat) (v : Int32) : qSt := va_up S o (upd (S o) k v)
theorem qmem_up (g : qG) (S : qSt) (o k : Nat) (v : Int32) : va_up (qmem g S) o (qcell g (upd (S o) k v) o (kd o)) = qmem g (qup S o k v) := by
  funext q
  by_cases h : q = o
  · subst h
    rw [va_up_self]
    unfold qmem qup
    rw [va_up_self]
  · rw [va_up_ne _ _ h]
    unfold qmem qup
    rw [va_up_ne _ _ h]
/-- how a field is linked: object class ci, field k, a number (b none) or a place -/
def qLF (own : String) (index ci k : Nat) (b : Option Nat) : Prop := ∃ q : vw_C, vwCl[ci]? = some q ∧ k < q.2.2 ∧ (qtm ci)[k]? = some b ∧ qw (.fieldLink own index (q.2.1 k).1 (q.2.1 k).2.1 (q.2.1 k).2.2.1) ∧ (b = none → (q.2.1 k).2.2.2 = false ∧ parseFieldDescriptor (q.2.1 k).2.2.1 = some .int)
theorem vwCl_lt {ci : Nat} {q : vw_C} (h : vwCl[ci]? = some q) : ci < 9 := (List.getElem?_eq_some_iff.mp h).1
theorem qmem_o {g : qG} {S : qSt} {o ci z : Nat} (hk : kd o = (ci, z)) (h : ci < 9) : qmem g S o = .inr (ci, qfs g (S o) o 0 (qtm ci)) := by
  unfold qmem qcell
  rw [hk]
  simp [h]
theorem qmem_10 {g : qG} {S : qSt} {o n : Nat} (hk : kd o = (10, n)) : qmem g S o = .inl (g.2.2.1 0, n, .inl (S o)) := by
  unfold qmem qcell
  rw [hk]
  simp
theorem qmem_11 {g : qG} {S : qSt} {o n : Nat} (hk : kd o = (11, n)) : qmem g S o = .inl (g.2.2.1 1, n, .inl (S o)) := by
  unfold qmem qcell
  rw [hk]
  simp
theorem qmem_12 {g : qG} {S : qSt} {o n : Nat} (hk : kd o = (12, n)) : qmem g S o = .inl (g.2.2.1 2, n, .inl (S o)) := by
  unfold qmem qcell
  rw [hk]
  simp
theorem qmem_13 {g : qG} {S : qSt} {o n : Nat} (hk : kd o = (13, n)) : qmem g S o = .inl (g.2.2.1 3, n, .inr (.inl fun j => (S o j).toInt64)) := by
  unfold qmem qcell
  rw [hk]
  simp
theorem qmem_14 {g : qG} {S : qSt} {o n : Nat} (hk : kd o = (14, n)) : qmem g S o = .inl (g.2.2.1 4, n, .inr (.inr (.inr (.inr fun i => some (qa g (o + 1 + 5 * i)))))) := by
  unfold qmem qcell
  rw [hk]
  simp
theorem qmem_15 {g : qG} {S : qSt} {o n : Nat} (hk : kd o = (15, n)) : qmem g S o = .inl (g.2.2.1 4, n, .inr (.inr (.inr (.inr fun i => some (qa g (o + 2 + 5 * i)))))) := by
  unfold qmem qcell
  rw [hk]
  simp
/-- a town at place o -/
def tyT (o : Nat) : Prop := o + 4 < NL ∧ kd o = (5, 0) ∧ kd (o + 1) = (10, 21) ∧ kd (o + 2) = (10, 21) ∧ kd (o + 3) = (10, 21) ∧ kd (o + 4) = (11, 21)
/-- a route -/
def tyR (o : Nat) : Prop := o + 3 < NL ∧ kd o = (2, 0) ∧ kd (o + 1) = (10, 9) ∧ kd (o + 2) = (10, 9) ∧ kd (o + 3) = (10, 9)
/-- a row of numbers -/
def tyI (o : Nat) : Prop := o < NL ∧ kd o = (10, (kd o).2)
section QLS
variable {g : qG} {N : Nat} {hz : Nat → Prop} {nL : Nat} {p : Program} {l : Launch} {e : Env} {R : Room} {s : State} {m : MethodId} {args : Array Value} {below : List Frame} {meth : Method} {c : Code} {cells slots : Nat} {Q : State → Prop} {S : qSt} {pc : Nat} {lv : List (Nat × Value)} {rest : List Value} {cc : ByteArray} {own : String}
theorem s_geti (C : qC g cc own nL p s m meth c) {o ci z k index : Nat} (F : qLF own index ci k none) (ho : o < N) (hk : kd o = (ci, z)) (hdg : decode cc pc = .ok (.getfield index, 3)) (kk : qR g N hz nL p l e R s m args below meth c cells slots Q (qmem g S) (pc + 3) lv (.int (S o k) :: rest)) : qR g N hz nL p l e R s m args below meth c cells slots Q (qmem g S) pc lv (.ref (qa g o) :: rest) := by
  obtain ⟨q, h1, h2, h3, h4, h5⟩ := F
  have h6 := qfs_i g (S o) o (qtm ci) 0 k h3
  rw [Nat.zero_add] at h6
  exact q_get C ho (qmem_o hk (vwCl_lt h1)) h1 h2 h6 h4 hdg kk
theorem s_getr (C : qC g cc own nL p s m meth c) {o ci z k j a index : Nat} (F : qLF own index ci k (some j)) (ho : o < N) (hk : kd o = (ci, z)) (ha : o + j = a) (hdg : decode cc pc = .ok (.getfield index, 3)) (kk : qR g N hz nL p l e R s m args below meth c cells slots Q (qmem g S) (pc + 3) lv (.ref (qa g a) :: rest)) : qR g N hz nL p l e R s m args below meth c cells slots Q (qmem g S) pc lv (.ref (qa g o) :: rest) := by
  obtain ⟨q, h1, h2, h3, h4, h5⟩ := F
  subst ha
  exact q_get C ho (qmem_o hk (vwCl_lt h1)) h1 h2 (qfs_r g (S o) o j (qtm ci) 0 k h3) h4 hdg kk
theorem s_puti (C : qC g cc own nL p s m meth c) {o ci z k index : Nat} {v : Int32} (F : qLF own index ci k none) (ho : o < N) (hk : kd o = (ci, z)) (hdg : decode cc pc = .ok (.putfield index, 3)) (kk : qR g N hz nL p l e R s m args below meth c cells slots Q (qmem g (qup S o k v)) (pc + 3) lv rest) : qR g N hz nL p l e R s m args below meth c cells slots Q (qmem g S) pc lv (.int v :: .ref (qa g o) :: rest) := by
  obtain ⟨q, h1, h2, h3, h4, h5⟩ := F
  obtain ⟨h6, h7⟩ := h5 rfl
  refine q_put C ho (qmem_o hk (vwCl_lt h1)) h1 h2 h4 h6 h7 rfl rfl (by rw [qfs_len]; exact (List.getElem?_eq_some_iff.mp h3).1) hdg ?_
  rw [qfs_set g (S o) o v (qtm ci) 0 k h3, Nat.zero_add]
  have h8 : Sum.inr (ci, qfs g (upd (S o) k v) o 0 (qtm ci)) = qcell g (upd (S o) k v) o (kd o) := by
    unfold qcell
    rw [hk]
    simp [vwCl_lt h1]
  rw [h8, qmem_up]
  exact kk
theorem s_iald (C : qC g cc own nL p s m meth c) {o n : Nat} {i : Int32} (ho : o < N) (hk : kd o = (10, n)) (hin : qin i n = true) (hdg : decode cc pc = .ok (.iaload, 1)) (kk : qR g N hz nL p l e R s m args below meth c cells slots Q (qmem g S) (pc + 1) lv (.int (S o i.toNatClampNeg) :: rest)) : qR g N hz nL p l e R s m args below meth c cells slots Q (qmem g S) pc lv (.int i :: .ref (qa g o) :: rest) :=
  q_iald C ho (qmem_10 hk) hin hdg kk
theorem s_iast (C : qC g cc own nL p s m meth c) {o n : Nat} {i x : Int32} (ho : o < N) (hk : kd o = (10, n)) (hin : qin i n = true) (hdg : decode cc pc = .ok (.iastore, 1)) (kk : qR g N hz nL p l e R s m args below meth c cells slots Q (qmem g (qup S o i.toNatClampNeg x)) (pc + 1) lv rest) : qR g N hz nL p l e R s m args below meth c cells slots Q (qmem g S) pc lv (.int x :: .int i :: .ref (qa g o) :: rest) := by
  refine q_iast C ho (qmem_10 hk) hin hdg ?_
  rw [← qmem_up] at kk
  have h8 : qcell g (upd (S o) i.toNatClampNeg x) o (kd o) = .inl (g.2.2.1 0, n, .inl (upd (S o) i.toNatClampNeg x)) := by
    unfold qcell
    rw [hk]
    simp
  rw [h8] at kk
  exact kk
theorem s_zald (C : qC g cc own nL p s m meth c) {o n : Nat} {i : Int32} (ho : o < N) (hk : kd o = (11, n)) (hin : qin i n = true) (hdg : decode cc pc = .ok (.baload, 1)) (kk : qR g N hz nL p l e R s m args below meth c cells slots Q (qmem g S) (pc + 1) lv (.int (S o i.toNatClampNeg) :: rest)) : qR g N hz nL p l e R s m args below meth c cells slots Q (qmem g S) pc lv (.int i :: .ref (qa g o) :: rest) :=
  q_zald C ho (qmem_11 hk) hin hdg kk
theorem s_zast (C : qC g cc own nL p s m meth c) {o n : Nat} {i x : Int32} (ho : o < N) (hk : kd o = (11, n)) (hin : qin i n = true) (hdg : decode cc pc = .ok (.bastore, 1)) (kk : qR g N hz nL p l e R s m args below meth c cells slots Q (qmem g (qup S o i.toNatClampNeg (x &&& 1))) (pc + 1) lv rest) : qR g N hz nL p l e R s m args below meth c cells slots Q (qmem g S) pc lv (.int x :: .int i :: .ref (qa g o) :: rest) := by
  refine q_zast C ho (qmem_11 hk) hin hdg ?_
  rw [← qmem_up] at kk
  have h8 : qcell g (upd (S o) i.toNatClampNeg (x &&& 1)) o (kd o) = .inl (g.2.2.1 1, n, .inl (upd (S o) i.toNatClampNeg (x &&& 1))) := by
    unfold qcell
    rw [hk]
    simp
  rw [h8] at kk
  exact kk
theorem s_cald (C : qC g cc own nL p s m meth c) {o n : Nat} {i : Int32} (ho : o < N) (hk : kd o = (12, n)) (hin : qin i n = true) (hdg : decode cc pc = .ok (.caload, 1)) (kk : qR g N hz nL p l e R s m args below meth c cells slots Q (qmem g S) (pc + 1) lv (.int (S o i.toNatClampNeg) :: rest)) : qR g N hz nL p l e R s m args below meth c cells slots Q (qmem g S) pc lv (.int i :: .ref (qa g o) :: rest) :=
  q_cald C ho (qmem_12 hk) hin hdg kk
theorem s_cast (C : qC g cc own nL p s m meth c) {o n : Nat} {i x : Int32} (ho : o < N) (hk : kd o = (12, n)) (hin : qin i n = true) (hdg : decode cc pc = .ok (.castore, 1)) (kk : qR g N hz nL p l e R s m args below meth c cells slots Q (qmem g (qup S o i.toNatClampNeg x.toUInt32.toUInt16.toUInt32.toInt32)) (pc + 1) lv rest) : qR g N hz nL p l e R s m args below meth c cells slots Q (qmem g S) pc lv (.int x :: .int i :: .ref (qa g o) :: rest) := by
  refine q_cast C ho (qmem_12 hk) hin hdg ?_
  rw [← qmem_up] at kk
  have h8 : qcell g (upd (S o) i.toNatClampNeg x.toUInt32.toUInt16.toUInt32.toInt32) o (kd o) = .inl (g.2.2.1 2, n, .inl (upd (S o) i.toNatClampNeg x.toUInt32.toUInt16.toUInt32.toInt32)) := by
    unfold qcell
    rw [hk]
    simp
  rw [h8] at kk
  exact kk
theorem s_lald (C : qC g cc own nL p s m meth c) {o n : Nat} {i : Int32} (ho : o < N) (hk : kd o = (13, n)) (hin : qin i n = true) (hdg : decode cc pc = .ok (.laload, 1)) (kk : qR g N hz nL p l e R s m args below meth c cells slots Q (qmem g S) (pc + 1) lv (.long (S o i.toNatClampNeg).toInt64 :: rest)) : qR g N hz nL p l e R s m args below meth c cells slots Q (qmem g S) pc lv (.int i :: .ref (qa g o) :: rest) :=
  q_lald C ho (qmem_13 hk) hin hdg kk
theorem s_last (C : qC g cc own nL p s m meth c) {o n : Nat} {i x : Int32} (ho : o < N) (hk : kd o = (13, n)) (hin : qin i n = true) (hz9 : hz = fun _ => True) (hdg : decode cc pc = .ok (.lastore, 1)) (kk : qR g N hz nL p l e R s m args below meth c cells slots Q (qmem g (qup S o i.toNatClampNeg x)) (pc + 1) lv rest) : qR g N hz nL p l e R s m args below meth c cells slots Q (qmem g S) pc lv (.long x.toInt64 :: .int i :: .ref (qa g o) :: rest) := by
  refine q_last C ho (qmem_13 hk) hin hz9 hdg ?_
  rw [← qmem_up] at kk
  have h8 : qcell g (upd (S o) i.toNatClampNeg x) o (kd o) = .inl (g.2.2.1 3, n, .inr (.inl (vp_updL (fun j => (S o j).toInt64) i.toNatClampNeg x.toInt64))) := by
    unfold qcell
    rw [hk]
    simp only [Nat.reduceLT, Nat.reduceEqDiff, if_false, if_true, ite_false, ite_true]
    congr 5
    funext j
    simp only [upd, vp_updL]
    by_cases hj : j = i.toNatClampNeg
    · rw [if_pos hj, if_pos hj]
    · rw [if_neg hj, if_neg hj]
  rw [h8] at kk
  exact kk
theorem s_aald14 (C : qC g cc own nL p s m meth c) {o n a : Nat} {i : Int32} (ho : o < N) (hk : kd o = (14, n)) (hin : qin i n = true) (ha : o + 1 + 5 * i.toNatClampNeg = a) (hdg : decode cc pc = .ok (.aaload, 1)) (kk : qR g N hz nL p l e R s m args below meth c cells slots Q (qmem g S) (pc + 1) lv (.ref (qa g a) :: rest)) : qR g N hz nL p l e R s m args below meth c cells slots Q (qmem g S) pc lv (.int i :: .ref (qa g o) :: rest) := by
  subst ha
  exact q_aald C ho (qmem_14 hk) hin rfl hdg kk
theorem s_aald15 (C : qC g cc own nL p s m meth c) {o n a : Nat} {i : Int32} (ho : o < N) (hk : kd o = (15, n)) (hin : qin i n = true) (ha : o + 2 + 5 * i.toNatClampNeg = a) (hdg : decode cc pc = .ok (.aaload, 1)) (kk : qR g N hz nL p l e R s m args below meth c cells slots Q (qmem g S) (pc + 1) lv (.ref (qa g a) :: rest)) : qR g N hz nL p l e R s m args below meth c cells slots Q (qmem g S) pc lv (.int i :: .ref (qa g o) :: rest) := by
  subst ha
  exact q_aald C ho (qmem_15 hk) hin rfl hdg kk
end QLS
/-- two results of a partial step -/
def ob1 {α γ : Type} (x : Option α) (f : α → Option γ) : Option γ := match x with
  | none => none
  | some a => f a
def ob2 {α β γ : Type} (x : Option (α × β)) (f : α → β → Option γ) : Option γ := match x with
  | none => none
  | some (a, b) => f a b
theorem ob1_e {α γ : Type} {x : Option α} {f : α → Option γ} {r : γ} (h : ob1 x f = some r) : ∃ a, x = some a ∧ f a = some r := by
  cases x with
  | none => cases h
  | some a => exact ⟨a, rfl, h⟩
theorem ob2_e {α β γ : Type} {x : Option (α × β)} {f : α → β → Option γ} {r : γ} (h : ob2 x f = some r) : ∃ a b, x = some (a, b) ∧ f a b = some r := by
  cases x with
  | none => cases h
  | some q => obtain ⟨a, b⟩ := q; exact ⟨a, b, rfl, h⟩
