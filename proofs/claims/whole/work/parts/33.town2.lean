/-! CHANGES OF A TOWN, class side -/
def tU (T : Tn) (x y v : Nat) : Tn := fun i k => if i = x ∧ k = y then v else T i k
/-- a street is taken away -/
def tR (T : Tn) (s : Nat) : Tn := fun i k => if i = 0 then (if k = 1 then T 0 1 - 1 else T 0 k) else if k < s then T i k else T i (k + 1)
/-- a street is put at place s -/
def tP (T : Tn) (s a b l : Nat) : Tn := fun i k => if i = 0 then T 0 k else if k = s then (if i = 1 then min a b else if i = 2 then max a b else if i = 3 then l else 0) else T i k
/-- a street is put behind all others -/
def tA (T : Tn) (a b l : Nat) : Tn := tP (tU T 0 1 (T 0 1 + 1)) (T 0 1) a b l
def oN (T : Tn) (s c : Nat) : Bool := decide (T 4 s = 0 ∧ (T 1 s = c ∨ T 2 s = c))
def oT (T : Tn) (s c : Nat) : Nat := if T 1 s = c then T 2 s else T 1 s
theorem c_rt {S : qSt} {o k : Nat} {T : Tn} (hT : isT S o T) (hv : vK k T) (hk : k ≤ 21) {s c : Nat} (hs : s < T 0 1) (hc : c < 9) : F5_reachedThrough o (nI s) (nI c) S = some (if oN T s c = true then nI (oT T s c) else nN) := by
  have h0 := hv.2.2.1
  obtain ⟨t1, t2, t3, t4⟩ := hT.2.2.2.2 s hs
  obtain ⟨v1, v2, v3, v4, v5⟩ := hv.2.2.2.2.2.2.1 s hs
  have v0 := hv.2.1
  unfold F5_reachedThrough
  rw [c_hasS_y hT.2.1 (by omega) hs]
  simp (disch := omega) only [if_pos, if_neg, ite_true, ite_false, not_true_eq_false, Bool.false_eq_true, not_false_eq_true, eq_self, obs, ob1, ob2, obx, opx, li_0, li_1, li_2, li_3, li_4, li_5, li_6, li_7, li_8, li_9, li_10, li_14, li_16, li_20, li_21, li_24, li_25, li_32, li_44, li_48, li_57, li_60, li_64, li_81, li_84, li_99, li_100, li_101, li_108, li_111, li_115, li_116, li_120, li_140, li_255, li_500, li_999, li_1000, li_1092, li_1176, li_10000, li_100000, li_1000000, li_N, li_M, nI_add, pk_mul, pk_sub, pk_div, pk_rem, k_mod, nI_clamp, nI_leI, nI_ltI, nI_eq, qin_nI, nI_m1, nN_lt, nN_lt2, nN_le, nN_le2, nN_eq, nN_eq2, qin_nN, Option.some.injEq, Prod.mk.injEq, Sum.inl.injEq, t1, t2, t4]
  unfold oN oT
  simp only [decide_eq_true_eq]
  repeat' split
  all_goals first | rfl | omega
theorem c_cl_loop {S : qSt} {o n k : Nat} {T : Tn} (hT : isT S o T) (hv : vK k T) (hk : k ≤ 21) : ∀ j s f x, s + j = T 0 1 → j < f → x ≤ s → B5_closedStreets_4 n o f (nI x) (nI s) S = some (nI (x + cc (fun s => decide (T 4 s ≠ 0)) j s)) := by
  have h1 := hT.2.1
  have hn := hv.2.2.1
  intro j
  induction j with
  | zero =>
    intro s f x hs hf hx
    obtain ⟨g, rfl, hg⟩ := fuel_s hf
    rw [B5_closedStreets_4]
    simp (disch := omega) only [if_pos, if_neg, ite_true, ite_false, not_true_eq_false, Bool.false_eq_true, not_false_eq_true, eq_self, obs, ob1, ob2, obx, opx, li_0, li_1, li_2, li_3, li_4, li_5, li_6, li_7, li_8, li_9, li_10, li_14, li_16, li_20, li_21, li_24, li_25, li_32, li_44, li_48, li_57, li_60, li_64, li_81, li_84, li_99, li_100, li_101, li_108, li_111, li_115, li_116, li_120, li_140, li_255, li_500, li_999, li_1000, li_1092, li_1176, li_10000, li_100000, li_1000000, li_N, li_M, nI_add, pk_mul, pk_sub, pk_div, pk_rem, k_mod, nI_clamp, nI_leI, nI_ltI, nI_eq, qin_nI, nI_m1, nN_lt, nN_lt2, nN_le, nN_le2, nN_eq, nN_eq2, qin_nN, Option.some.injEq, Prod.mk.injEq, Sum.inl.injEq, h1, cc, Nat.add_zero]
  | succ j ih =>
    intro s f x hs hf hx
    obtain ⟨g, rfl, hg⟩ := fuel_s hf
    obtain ⟨t1, t2, t3, t4⟩ := hT.2.2.2.2 s (by omega)
    obtain ⟨v1, v2, v3, v4, v5⟩ := hv.2.2.2.2.2.2.1 s (by omega)
    rw [B5_closedStreets_4, cc]
    simp (disch := omega) only [if_pos, if_neg, ite_true, ite_false, not_true_eq_false, Bool.false_eq_true, not_false_eq_true, eq_self, obs, ob1, ob2, obx, opx, li_0, li_1, li_2, li_3, li_4, li_5, li_6, li_7, li_8, li_9, li_10, li_14, li_16, li_20, li_21, li_24, li_25, li_32, li_44, li_48, li_57, li_60, li_64, li_81, li_84, li_99, li_100, li_101, li_108, li_111, li_115, li_116, li_120, li_140, li_255, li_500, li_999, li_1000, li_1092, li_1176, li_10000, li_100000, li_1000000, li_N, li_M, nI_add, pk_mul, pk_sub, pk_div, pk_rem, k_mod, nI_clamp, nI_leI, nI_ltI, nI_eq, qin_nI, nI_m1, nN_lt, nN_lt2, nN_le, nN_le2, nN_eq, nN_eq2, qin_nN, Option.some.injEq, Prod.mk.injEq, Sum.inl.injEq, h1, t4, B5_closedStreets_24]
    by_cases c : T 4 s = 0
    · rw [if_pos c, ih (s + 1) g x (by omega) (by omega) (by omega)]
      simp [c]
    · rw [if_neg c, ih (s + 1) g (x + 1) (by omega) (by omega) (by omega)]
      simp [c, Nat.add_assoc]
theorem c_cl {S : qSt} {o n k : Nat} {T : Tn} (hT : isT S o T) (hv : vK k T) (hk : k ≤ 21) (hn : 100 ≤ n) : F5_closedStreets n o S = some (nI (cc (fun s => decide (T 4 s ≠ 0)) (T 0 1) 0)) := by
  have h0 := hv.2.2.1
  have := c_cl_loop (n := n) hT hv hk (T 0 1) 0 n 0 (by omega) (by omega) (by omega)
  rw [Nat.zero_add] at this
  exact this
theorem c_os_loop {S : qSt} {o n k : Nat} {T : Tn} (hT : isT S o T) (hv : vK k T) (hk : k ≤ 21) {c : Nat} (hc : c < 9) : ∀ j s f x, s + j = T 0 1 → j < f → x ≤ s → B5_openStreetsAt_4 n o f (nI c) (nI x) (nI s) S = some (nI (x + cc (fun s => oN T s c) j s)) := by
  have h1 := hT.2.1
  have hn := hv.2.2.1
  intro j
  induction j with
  | zero =>
    intro s f x hs hf hx
    obtain ⟨g, rfl, hg⟩ := fuel_s hf
    rw [B5_openStreetsAt_4]
    simp (disch := omega) only [if_pos, if_neg, ite_true, ite_false, not_true_eq_false, Bool.false_eq_true, not_false_eq_true, eq_self, obs, ob1, ob2, obx, opx, li_0, li_1, li_2, li_3, li_4, li_5, li_6, li_7, li_8, li_9, li_10, li_14, li_16, li_20, li_21, li_24, li_25, li_32, li_44, li_48, li_57, li_60, li_64, li_81, li_84, li_99, li_100, li_101, li_108, li_111, li_115, li_116, li_120, li_140, li_255, li_500, li_999, li_1000, li_1092, li_1176, li_10000, li_100000, li_1000000, li_N, li_M, nI_add, pk_mul, pk_sub, pk_div, pk_rem, k_mod, nI_clamp, nI_leI, nI_ltI, nI_eq, qin_nI, nI_m1, nN_lt, nN_lt2, nN_le, nN_le2, nN_eq, nN_eq2, qin_nN, Option.some.injEq, Prod.mk.injEq, Sum.inl.injEq, h1, cc, Nat.add_zero]
  | succ j ih =>
    intro s f x hs hf hx
    obtain ⟨g, rfl, hg⟩ := fuel_s hf
    obtain ⟨v1, v2, v3, v4, v5⟩ := hv.2.2.2.2.2.2.1 s (by omega)
    have v0 := hv.2.1
    have hot : oT T s c < 9 := by
      unfold oT
      split <;> omega
    rw [B5_openStreetsAt_4, cc, c_rt hT hv hk (by omega) hc]
    by_cases q : oN T s c = true
    · simp (disch := omega) only [if_pos, if_neg, ite_true, ite_false, not_true_eq_false, Bool.false_eq_true, not_false_eq_true, eq_self, obs, ob1, ob2, obx, opx, li_0, li_1, li_2, li_3, li_4, li_5, li_6, li_7, li_8, li_9, li_10, li_14, li_16, li_20, li_21, li_24, li_25, li_32, li_44, li_48, li_57, li_60, li_64, li_81, li_84, li_99, li_100, li_101, li_108, li_111, li_115, li_116, li_120, li_140, li_255, li_500, li_999, li_1000, li_1092, li_1176, li_10000, li_100000, li_1000000, li_N, li_M, nI_add, pk_mul, pk_sub, pk_div, pk_rem, k_mod, nI_clamp, nI_leI, nI_ltI, nI_eq, qin_nI, nI_m1, nN_lt, nN_lt2, nN_le, nN_le2, nN_eq, nN_eq2, qin_nN, Option.some.injEq, Prod.mk.injEq, Sum.inl.injEq, h1, B5_openStreetsAt_27, q]
      rw [ih (s + 1) g (x + 1) (by omega) (by omega) (by omega), Nat.add_assoc]
    · have q' : oN T s c = false := by simpa using q
      simp (disch := omega) only [if_pos, if_neg, ite_true, ite_false, not_true_eq_false, Bool.false_eq_true, not_false_eq_true, eq_self, obs, ob1, ob2, obx, opx, li_0, li_1, li_2, li_3, li_4, li_5, li_6, li_7, li_8, li_9, li_10, li_14, li_16, li_20, li_21, li_24, li_25, li_32, li_44, li_48, li_57, li_60, li_64, li_81, li_84, li_99, li_100, li_101, li_108, li_111, li_115, li_116, li_120, li_140, li_255, li_500, li_999, li_1000, li_1092, li_1176, li_10000, li_100000, li_1000000, li_N, li_M, nI_add, pk_mul, pk_sub, pk_div, pk_rem, k_mod, nI_clamp, nI_leI, nI_ltI, nI_eq, qin_nI, nI_m1, nN_lt, nN_lt2, nN_le, nN_le2, nN_eq, nN_eq2, qin_nN, Option.some.injEq, Prod.mk.injEq, Sum.inl.injEq, h1, B5_openStreetsAt_27, q']
      rw [ih (s + 1) g x (by omega) (by omega) (by omega), Nat.zero_add]
theorem c_os {S : qSt} {o n k : Nat} {T : Tn} (hT : isT S o T) (hv : vK k T) (hk : k ≤ 21) {c : Nat} (hc : c < 9) (hn : 100 ≤ n) : F5_openStreetsAt n o (nI c) S = some (nI (cc (fun s => oN T s c) (T 0 1) 0)) := by
  have h0 := hv.2.2.1
  have := c_os_loop (n := n) hT hv hk hc (T 0 1) 0 n 0 (by omega) (by omega) (by omega)
  rw [Nat.zero_add] at this
  exact this
def aN (T : Tn) (s c : Nat) : Bool := decide (T 1 s = c ∨ T 2 s = c)
theorem c_ja_loop {S : qSt} {o n k : Nat} {T : Tn} (hT : isT S o T) (hv : vK k T) (hk : k ≤ 21) {c : Nat} (hc : c < 9) : ∀ j s f x, s + j = T 0 1 → j < f → x ≤ s → B5_isJoinedWithAllOthers_4 n o f (nI c) (nI x) (nI s) S = some (if x + cc (fun s => aN T s c) j s < T 0 0 - 1 then nI 0 else nI 1) := by
  have h1 := hT.2.1
  have h00 := hT.1
  have hn := hv.2.2.1
  have v0 := hv.2.1
  have v00 := hv.1
  intro j
  induction j with
  | zero =>
    intro s f x hs hf hx
    obtain ⟨g, rfl, hg⟩ := fuel_s hf
    rw [B5_isJoinedWithAllOthers_4]
    simp (disch := omega) only [if_pos, if_neg, ite_true, ite_false, not_true_eq_false, Bool.false_eq_true, not_false_eq_true, eq_self, obs, ob1, ob2, obx, opx, li_0, li_1, li_2, li_3, li_4, li_5, li_6, li_7, li_8, li_9, li_10, li_14, li_16, li_20, li_21, li_24, li_25, li_32, li_44, li_48, li_57, li_60, li_64, li_81, li_84, li_99, li_100, li_101, li_108, li_111, li_115, li_116, li_120, li_140, li_255, li_500, li_999, li_1000, li_1092, li_1176, li_10000, li_100000, li_1000000, li_N, li_M, nI_add, pk_mul, pk_sub, pk_div, pk_rem, k_mod, nI_clamp, nI_leI, nI_ltI, nI_eq, qin_nI, nI_m1, nN_lt, nN_lt2, nN_le, nN_le2, nN_eq, nN_eq2, qin_nN, Option.some.injEq, Prod.mk.injEq, Sum.inl.injEq, h1, h00, cc, Nat.add_zero, B5_isJoinedWithAllOthers_41]
    by_cases hh : x < T 0 0 - 1 <;> simp [hh]
  | succ j ih =>
    intro s f x hs hf hx
    obtain ⟨g, rfl, hg⟩ := fuel_s hf
    obtain ⟨t1, t2, t3, t4⟩ := hT.2.2.2.2 s (by omega)
    obtain ⟨v1, v2, v3, v4, v5⟩ := hv.2.2.2.2.2.2.1 s (by omega)
    rw [B5_isJoinedWithAllOthers_4, cc]
    simp (disch := omega) only [if_pos, if_neg, ite_true, ite_false, not_true_eq_false, Bool.false_eq_true, not_false_eq_true, eq_self, obs, ob1, ob2, obx, opx, li_0, li_1, li_2, li_3, li_4, li_5, li_6, li_7, li_8, li_9, li_10, li_14, li_16, li_20, li_21, li_24, li_25, li_32, li_44, li_48, li_57, li_60, li_64, li_81, li_84, li_99, li_100, li_101, li_108, li_111, li_115, li_116, li_120, li_140, li_255, li_500, li_999, li_1000, li_1092, li_1176, li_10000, li_100000, li_1000000, li_N, li_M, nI_add, pk_mul, pk_sub, pk_div, pk_rem, k_mod, nI_clamp, nI_leI, nI_ltI, nI_eq, qin_nI, nI_m1, nN_lt, nN_lt2, nN_le, nN_le2, nN_eq, nN_eq2, qin_nN, Option.some.injEq, Prod.mk.injEq, Sum.inl.injEq, h1, t1, t2, B5_isJoinedWithAllOthers_32, B5_isJoinedWithAllOthers_35]
    rw [ih (s + 1) g x (by omega) (by omega) (by omega), ih (s + 1) g (x + 1) (by omega) (by omega) (by omega), ← Nat.add_assoc]
    by_cases c1 : T 1 s = c
    · simp [aN, c1]
    · by_cases c2 : T 2 s = c
      · simp [aN, c1, c2]
      · simp [aN, c1, c2]
theorem c_ja {S : qSt} {o n k : Nat} {T : Tn} (hT : isT S o T) (hv : vK k T) (hk : k ≤ 21) {c : Nat} (hc : c < 9) (hn : 100 ≤ n) : F5_isJoinedWithAllOthers n o (nI c) S = some (if cc (fun s => aN T s c) (T 0 1) 0 < T 0 0 - 1 then nI 0 else nI 1) := by
  have h0 := hv.2.2.1
  have := c_ja_loop (n := n) hT hv hk hc (T 0 1) 0 n 0 (by omega) (by omega) (by omega)
  rw [Nat.zero_add] at this
  exact this
/-- copying -/
theorem c_cs {S : qSt} {o a i j : Nat} (hi : i < 21) (hj : j < 21) : ∃ S2, F5_copyStreet o a (nI i) (nI j) S = some S2 ∧ (S 17 0 = S 17 0) ∧ S2 = qup (qup (qup (qup S (o + 1) j (S (a + 1) i)) (o + 2) j ((qup S (o + 1) j (S (a + 1) i)) (a + 2) i)) (o + 3) j ((qup (qup S (o + 1) j (S (a + 1) i)) (o + 2) j ((qup S (o + 1) j (S (a + 1) i)) (a + 2) i)) (a + 3) i)) (o + 4) j (((qup (qup (qup S (o + 1) j (S (a + 1) i)) (o + 2) j ((qup S (o + 1) j (S (a + 1) i)) (a + 2) i)) (o + 3) j ((qup (qup S (o + 1) j (S (a + 1) i)) (o + 2) j ((qup S (o + 1) j (S (a + 1) i)) (a + 2) i)) (a + 3) i)) (a + 4) i) &&& 1) := by
  unfold F5_copyStreet
  refine ⟨_, ?_, rfl, rfl⟩
  simp (disch := omega) only [if_pos, qin_nI, nI_clamp, obs]
theorem nI_and1 {x : Nat} (h : x ≤ 1) : nI x &&& 1 = nI x := in_bit (by
  rcases Nat.le_one_iff_eq_zero_or_eq_one.mp h with rfl | rfl
  · exact Or.inl rfl
  · exact Or.inr rfl)
/-- places of a town -/
abbrev pT (o : Nat) : List Nat := [o, o + 1, o + 2, o + 3, o + 4]
theorem c_cp_loop {S0 : qSt} {o a n k : Nat} {T : Tn} (hT : isT S0 a T) (hv : vK k T) (hk : k ≤ 21) (hoa : o + 4 < a ∨ a + 4 < o) : ∀ j s f S, s + j = T 0 1 → j < f → S o 0 = nI (T 0 0) → S o 1 = nI (T 0 1) → S o 2 = nI (T 0 2) → S o 3 = nI (T 0 3) → kp (pT o) S0 S → (∀ r, r < s → S (o + 1) r = nI (T 1 r) ∧ S (o + 2) r = nI (T 2 r) ∧ S (o + 3) r = nI (T 3 r) ∧ S (o + 4) r = nI (T 4 r)) → ∃ S2, B5_copyFrom_34 n o a f (nI s) S = some S2 ∧ isT S2 o T ∧ kp (pT o) S0 S2 := by
  have hn := hv.2.2.1
  intro j
  induction j with
  | zero =>
    intro s f S hs hf g0 g1 g2 g3 hkp hr
    obtain ⟨g, rfl, hg⟩ := fuel_s hf
    refine ⟨S, ?_, ⟨g0, g1, g2, g3, fun r hr2 => hr r (by omega)⟩, hkp⟩
    rw [B5_copyFrom_34]
    simp (disch := omega) only [if_pos, if_neg, ite_true, ite_false, not_true_eq_false, Bool.false_eq_true, not_false_eq_true, eq_self, obs, ob1, ob2, obx, opx, li_0, li_1, li_2, li_3, li_4, li_5, li_6, li_7, li_8, li_9, li_10, li_14, li_16, li_20, li_21, li_24, li_25, li_32, li_44, li_48, li_57, li_60, li_64, li_81, li_84, li_99, li_100, li_101, li_108, li_111, li_115, li_116, li_120, li_140, li_255, li_500, li_999, li_1000, li_1092, li_1176, li_10000, li_100000, li_1000000, li_N, li_M, nI_add, pk_mul, pk_sub, pk_div, pk_rem, k_mod, nI_clamp, nI_leI, nI_ltI, nI_eq, qin_nI, nI_m1, nN_lt, nN_lt2, nN_le, nN_le2, nN_eq, nN_eq2, qin_nN, Option.some.injEq, Prod.mk.injEq, Sum.inl.injEq, g1]
  | succ j ih =>
    intro s f S hs hf g0 g1 g2 g3 hkp hr
    obtain ⟨g, rfl, hg⟩ := fuel_s hf
    obtain ⟨t1, t2, t3, t4⟩ := hT.2.2.2.2 s (by omega)
    obtain ⟨v1, v2, v3, v4, v5⟩ := hv.2.2.2.2.2.2.1 s (by omega)
    obtain ⟨S1, e1, -, e2⟩ := c_cs (S := S) (o := o) (a := a) (i := s) (j := s) (by omega) (by omega)
    have ka : ∀ x, x ≤ 4 → S (a + x) = S0 (a + x) := fun x hx => hkp _ (by simp only [List.mem_cons, List.not_mem_nil, or_false]; omega)
    have e3 : S1 = qup (qup (qup (qup S (o + 1) s (nI (T 1 s))) (o + 2) s (nI (T 2 s))) (o + 3) s (nI (T 3 s))) (o + 4) s (nI (T 4 s)) := by
      rw [e2]
      simp (disch := omega) only [qup_o, ka, t1, t2, t3, t4, nI_and1]
    have r1 : B5_copyFrom_34 n o a (g + 1) (nI s) S = B5_copyFrom_34 n o a g (nI (s + 1)) S1 := by
      rw [B5_copyFrom_34]
      simp (disch := omega) only [if_pos, if_neg, ite_true, ite_false, not_true_eq_false, Bool.false_eq_true, not_false_eq_true, eq_self, obs, ob1, ob2, obx, opx, li_0, li_1, li_2, li_3, li_4, li_5, li_6, li_7, li_8, li_9, li_10, li_14, li_16, li_20, li_21, li_24, li_25, li_32, li_44, li_48, li_57, li_60, li_64, li_81, li_84, li_99, li_100, li_101, li_108, li_111, li_115, li_116, li_120, li_140, li_255, li_500, li_999, li_1000, li_1092, li_1176, li_10000, li_100000, li_1000000, li_N, li_M, nI_add, pk_mul, pk_sub, pk_div, pk_rem, k_mod, nI_clamp, nI_leI, nI_ltI, nI_eq, qin_nI, nI_m1, nN_lt, nN_lt2, nN_le, nN_le2, nN_eq, nN_eq2, qin_nN, Option.some.injEq, Prod.mk.injEq, Sum.inl.injEq, g1, e1]
    rw [r1]
    refine ih (s + 1) g S1 (by omega) (by omega) ?_ ?_ ?_ ?_ ?_ ?_
    · rw [e3]
      simp (disch := omega) only [qup_o, g0]
    · rw [e3]
      simp (disch := omega) only [qup_o, g1]
    · rw [e3]
      simp (disch := omega) only [qup_o, g2]
    · rw [e3]
      simp (disch := omega) only [qup_o, g3]
    · rw [e3]
      exact kp_up (kp_up (kp_up (kp_up hkp (by simp)) (by simp)) (by simp)) (by simp)
    · intro r hr2
      rw [e3]
      simp (disch := omega) only [qup_e, if_pos, if_neg]
      by_cases q : r = s
      · subst q
        simp
      · simp only [if_neg q]
        exact hr r (by omega)
theorem c_cp {S : qSt} {o a n k : Nat} {T : Tn} (hT : isT S a T) (hv : vK k T) (hk : k ≤ 21) (hoa : o + 4 < a ∨ a + 4 < o) (hn : 100 ≤ n) : ∃ S2, F5_copyFrom n o a S = some S2 ∧ isT S2 o T ∧ kp (pT o) S S2 := by
  have h0 := hv.2.2.1
  obtain ⟨t0, t1, t2, t3, -⟩ := id hT
  unfold F5_copyFrom
  simp (disch := omega) only [obs, qup_o, t0, t1, t2, t3]
  refine c_cp_loop hT hv hk hoa (T 0 1) 0 n _ (by omega) (by omega) ?_ ?_ ?_ ?_ ?_ ?_
  · simp (disch := omega) only [qup_e, if_pos, if_neg, ite_true, ite_false, eq_self, and_self, true_and, and_true, tU]
  · simp (disch := omega) only [qup_e, if_pos, if_neg, ite_true, ite_false, eq_self, and_self, true_and, and_true, tU]
  · simp (disch := omega) only [qup_e, if_pos, if_neg, ite_true, ite_false, eq_self, and_self, true_and, and_true, tU]
  · simp (disch := omega) only [qup_e, if_pos, if_neg, ite_true, ite_false, eq_self, and_self, true_and, and_true, tU]
  · exact kp_up (kp_up (kp_up (kp_up kp_rfl (by simp)) (by simp)) (by simp)) (by simp)
  · intro r hr
    omega
/-! single changes -/
theorem isT_hd {S : qSt} {o x : Nat} {T : Tn} (hT : isT S o T) (hx : x < 4) (hx1 : x ≠ 1) (v : Nat) : isT (qup S o x (nI v)) o (tU T 0 x v) := by
  obtain ⟨t0, t1, t2, t3, ts⟩ := id hT
  unfold isT
  refine ⟨?_, ?_, ?_, ?_, fun s hs => ?_⟩
  · by_cases h : x = 0
    · subst h
      simp (disch := omega) only [qup_e, if_pos, if_neg, ite_true, ite_false, eq_self, and_self, true_and, and_true, tU]
    · simp (disch := omega) only [qup_e, if_pos, if_neg, ite_true, ite_false, eq_self, and_self, true_and, and_true, tU, t0]
  · simp (disch := omega) only [qup_e, if_pos, if_neg, ite_true, ite_false, eq_self, and_self, true_and, and_true, tU, t1]
  · by_cases h : x = 2
    · subst h
      simp (disch := omega) only [qup_e, if_pos, if_neg, ite_true, ite_false, eq_self, and_self, true_and, and_true, tU]
    · simp (disch := omega) only [qup_e, if_pos, if_neg, ite_true, ite_false, eq_self, and_self, true_and, and_true, tU, t2]
  · by_cases h : x = 3
    · subst h
      simp (disch := omega) only [qup_e, if_pos, if_neg, ite_true, ite_false, eq_self, and_self, true_and, and_true, tU]
    · simp (disch := omega) only [qup_e, if_pos, if_neg, ite_true, ite_false, eq_self, and_self, true_and, and_true, tU, t3]
  · simp (disch := omega) only [tU, if_neg] at hs
    obtain ⟨a1, a2, a3, a4⟩ := ts s hs
    simp (disch := omega) only [qup_e, if_pos, if_neg, ite_true, ite_false, eq_self, and_self, true_and, and_true, tU, a1, a2, a3, a4]
    try simp
theorem isT_st {S : qSt} {o x s : Nat} {T : Tn} (hT : isT S o T) (hx : x < 5) (hx1 : 0 < x) (v : Nat) : isT (qup S (o + x) s (nI v)) o (tU T x s v) := by
  obtain ⟨t0, t1, t2, t3, ts⟩ := id hT
  unfold isT
  refine ⟨?_, ?_, ?_, ?_, fun r hr => ?_⟩
  · simp (disch := omega) only [qup_e, if_pos, if_neg, ite_true, ite_false, eq_self, and_self, true_and, and_true, tU, t0]
  · simp (disch := omega) only [qup_e, if_pos, if_neg, ite_true, ite_false, eq_self, and_self, true_and, and_true, tU, t1]
  · simp (disch := omega) only [qup_e, if_pos, if_neg, ite_true, ite_false, eq_self, and_self, true_and, and_true, tU, t2]
  · simp (disch := omega) only [qup_e, if_pos, if_neg, ite_true, ite_false, eq_self, and_self, true_and, and_true, tU, t3]
  · simp (disch := omega) only [tU, if_neg] at hr
    obtain ⟨a1, a2, a3, a4⟩ := ts r hr
    by_cases q : r = s
    · subst q
      rcases (by omega : x = 1 ∨ x = 2 ∨ x = 3 ∨ x = 4) with rfl | rfl | rfl | rfl <;> simp (disch := omega) only [qup_e, if_pos, if_neg, ite_true, ite_false, eq_self, and_self, true_and, and_true, tU, a1, a2, a3, a4] <;> try simp
    · rcases (by omega : x = 1 ∨ x = 2 ∨ x = 3 ∨ x = 4) with rfl | rfl | rfl | rfl <;> simp (disch := omega) only [qup_e, if_pos, if_neg, ite_true, ite_false, eq_self, and_self, true_and, and_true, tU, a1, a2, a3, a4] <;> try simp
/-- an open street is put at place s -/
theorem isT_tP {S : qSt} {o s a b l : Nat} {T : Tn} (hT : isT S o T) : isT (qup (qup (qup (qup S (o + 1) s (nI (min a b))) (o + 2) s (nI (max a b))) (o + 3) s (nI l)) (o + 4) s (nI 0)) o (tP T s a b l) := by
  obtain ⟨t0, t1, t2, t3, ts⟩ := id hT
  unfold isT
  refine ⟨?_, ?_, ?_, ?_, fun r hr => ?_⟩
  · simp (disch := omega) only [qup_e, if_pos, if_neg, ite_true, ite_false, eq_self, and_self, true_and, and_true, tU, t0, tP]
  · simp (disch := omega) only [qup_e, if_pos, if_neg, ite_true, ite_false, eq_self, and_self, true_and, and_true, tU, t1, tP]
  · simp (disch := omega) only [qup_e, if_pos, if_neg, ite_true, ite_false, eq_self, and_self, true_and, and_true, tU, t2, tP]
  · simp (disch := omega) only [qup_e, if_pos, if_neg, ite_true, ite_false, eq_self, and_self, true_and, and_true, tU, t3, tP]
  · simp only [tP, ite_true] at hr
    obtain ⟨a1, a2, a3, a4⟩ := ts r hr
    by_cases q : r = s
    · subst q
      simp (disch := omega) only [qup_e, if_pos, if_neg, ite_true, ite_false, eq_self, and_self, true_and, and_true, tU, tP]
      try simp
    · simp (disch := omega) only [qup_e, if_pos, if_neg, ite_true, ite_false, eq_self, and_self, true_and, and_true, tU, tP, a1, a2, a3, a4]
      try simp
theorem c_grow_y {S : qSt} {o : Nat} {T : Tn} (hT : isT S o T) (h9 : T 0 0 < 9) : ∃ S2, F5_grow o S = some (nI 0, S2) ∧ isT S2 o (tU T 0 0 (T 0 0 + 1)) ∧ kp (pT o) S S2 := by
  refine ⟨qup S o 0 (nI (T 0 0 + 1)), ?_, isT_hd hT (by omega) (by omega) _, kp_up kp_rfl (by simp)⟩
  unfold F5_grow
  simp (disch := omega) only [if_pos, if_neg, ite_true, ite_false, not_true_eq_false, Bool.false_eq_true, not_false_eq_true, eq_self, obs, ob1, ob2, obx, opx, li_0, li_1, li_2, li_3, li_4, li_5, li_6, li_7, li_8, li_9, li_10, li_14, li_16, li_20, li_21, li_24, li_25, li_32, li_44, li_48, li_57, li_60, li_64, li_81, li_84, li_99, li_100, li_101, li_108, li_111, li_115, li_116, li_120, li_140, li_255, li_500, li_999, li_1000, li_1092, li_1176, li_10000, li_100000, li_1000000, li_N, li_M, nI_add, pk_mul, pk_sub, pk_div, pk_rem, k_mod, nI_clamp, nI_leI, nI_ltI, nI_eq, qin_nI, nI_m1, nN_lt, nN_lt2, nN_le, nN_le2, nN_eq, nN_eq2, qin_nN, Option.some.injEq, Prod.mk.injEq, Sum.inl.injEq, hT.1]
theorem c_grow_n {S : qSt} {o : Nat} {T : Tn} (hT : isT S o T) (h9 : T 0 0 = 9) : F5_grow o S = some (nI 3, S) := by
  unfold F5_grow
  simp (disch := omega) only [if_pos, if_neg, ite_true, ite_false, not_true_eq_false, Bool.false_eq_true, not_false_eq_true, eq_self, obs, ob1, ob2, obx, opx, li_0, li_1, li_2, li_3, li_4, li_5, li_6, li_7, li_8, li_9, li_10, li_14, li_16, li_20, li_21, li_24, li_25, li_32, li_44, li_48, li_57, li_60, li_64, li_81, li_84, li_99, li_100, li_101, li_108, li_111, li_115, li_116, li_120, li_140, li_255, li_500, li_999, li_1000, li_1092, li_1176, li_10000, li_100000, li_1000000, li_N, li_M, nI_add, pk_mul, pk_sub, pk_div, pk_rem, k_mod, nI_clamp, nI_leI, nI_ltI, nI_eq, qin_nI, nI_m1, nN_lt, nN_lt2, nN_le, nN_le2, nN_eq, nN_eq2, qin_nN, Option.some.injEq, Prod.mk.injEq, Sum.inl.injEq, hT.1, h9]
theorem c_shut_y {S : qSt} {o k s b : Nat} {T : Tn} (hT : isT S o T) (hv : vK k T) (hk : k ≤ 21) (hs : s < T 0 1) (hb : b ≤ 1) : ∃ S2, F5_shut o (nI s) (nI b) S = some (nI 0, S2) ∧ isT S2 o (tU T 4 s b) ∧ kp (pT o) S S2 := by
  have h0 := hv.2.2.1
  refine ⟨qup S (o + 4) s (nI b), ?_, isT_st hT (by omega) (by omega) _, kp_up kp_rfl (by simp)⟩
  unfold F5_shut
  rw [c_hasS_y hT.2.1 (by omega) hs, nI_and1 hb]
  simp (disch := omega) only [if_pos, if_neg, ite_true, ite_false, not_true_eq_false, Bool.false_eq_true, not_false_eq_true, eq_self, obs, ob1, ob2, obx, opx, li_0, li_1, li_2, li_3, li_4, li_5, li_6, li_7, li_8, li_9, li_10, li_14, li_16, li_20, li_21, li_24, li_25, li_32, li_44, li_48, li_57, li_60, li_64, li_81, li_84, li_99, li_100, li_101, li_108, li_111, li_115, li_116, li_120, li_140, li_255, li_500, li_999, li_1000, li_1092, li_1176, li_10000, li_100000, li_1000000, li_N, li_M, nI_add, pk_mul, pk_sub, pk_div, pk_rem, k_mod, nI_clamp, nI_leI, nI_ltI, nI_eq, qin_nI, nI_m1, nN_lt, nN_lt2, nN_le, nN_le2, nN_eq, nN_eq2, qin_nN, Option.some.injEq, Prod.mk.injEq, Sum.inl.injEq]
theorem c_shut_n {S : qSt} {o k : Nat} {x b : Int32} {T : Tn} (hT : isT S o T) (hv : vK k T) (hk : k ≤ 21) (hs : ∀ s, s < T 0 1 → x ≠ nI s) : F5_shut o x b S = some (nI 1, S) := by
  have h0 := hv.2.2.1
  unfold F5_shut
  rw [c_hasS_n hT.2.1 (by omega) hs]
  simp (disch := omega) only [if_pos, if_neg, ite_true, ite_false, not_true_eq_false, Bool.false_eq_true, not_false_eq_true, eq_self, obs, ob1, ob2, obx, opx, li_0, li_1, li_2, li_3, li_4, li_5, li_6, li_7, li_8, li_9, li_10, li_14, li_16, li_20, li_21, li_24, li_25, li_32, li_44, li_48, li_57, li_60, li_64, li_81, li_84, li_99, li_100, li_101, li_108, li_111, li_115, li_116, li_120, li_140, li_255, li_500, li_999, li_1000, li_1092, li_1176, li_10000, li_100000, li_1000000, li_N, li_M, nI_add, pk_mul, pk_sub, pk_div, pk_rem, k_mod, nI_clamp, nI_leI, nI_ltI, nI_eq, qin_nI, nI_m1, nN_lt, nN_lt2, nN_le, nN_le2, nN_eq, nN_eq2, qin_nN, Option.some.injEq, Prod.mk.injEq, Sum.inl.injEq]
theorem rol_y {S : qSt} {l : Nat} (h1 : 1 ≤ l) (h2 : l ≤ 99) : F7_refusalOfLength (nI l) S = nI 0 := by
  unfold F7_refusalOfLength
  simp (disch := omega) only [if_pos, if_neg, ite_true, ite_false, not_true_eq_false, Bool.false_eq_true, not_false_eq_true, eq_self, obs, ob1, ob2, obx, opx, li_0, li_1, li_2, li_3, li_4, li_5, li_6, li_7, li_8, li_9, li_10, li_14, li_16, li_20, li_21, li_24, li_25, li_32, li_44, li_48, li_57, li_60, li_64, li_81, li_84, li_99, li_100, li_101, li_108, li_111, li_115, li_116, li_120, li_140, li_255, li_500, li_999, li_1000, li_1092, li_1176, li_10000, li_100000, li_1000000, li_N, li_M, nI_add, pk_mul, pk_sub, pk_div, pk_rem, k_mod, nI_clamp, nI_leI, nI_ltI, nI_eq, qin_nI, nI_m1, nN_lt, nN_lt2, nN_le, nN_le2, nN_eq, nN_eq2, qin_nN, Option.some.injEq, Prod.mk.injEq, Sum.inl.injEq]
theorem rol_n {S : qSt} {x : Int32} (h : ∀ l, 1 ≤ l → l ≤ 99 → x ≠ nI l) : F7_refusalOfLength x S = nI 2 := by
  unfold F7_refusalOfLength B7_refusalOfLength_11
  by_cases h1 : x < 1
  · rw [if_pos h1]
    rfl
  · rw [if_neg h1]
    by_cases h3 : x ≤ 99
    · exfalso
      rcases ix x 100 (by omega) with ⟨j, hj, rfl⟩ | ⟨h4, h5⟩
      · by_cases h6 : 1 ≤ j
        · exact h j h6 (by omega) rfl
        · exact h1 (nI_lt (a := j) (b := 1) (by omega) (by omega))
      · have e1 : (1 : Int32).toInt = 1 := rfl
        have e2 : (99 : Int32).toInt = 99 := rfl
        have e3 := nI_toInt (n := 100) (by omega)
        have e4 : (0 : Int32).toInt = 0 := rfl
        rw [Int32.lt_iff_toInt_lt] at h1
        rw [Int32.le_iff_toInt_le] at h3
        rcases h5 with h5 | h5
        · rw [Int32.lt_iff_toInt_lt] at h5
          omega
        · rw [Int32.le_iff_toInt_le] at h5
          omega
    · rw [if_neg h3]
      rfl
theorem c_str_y {S : qSt} {o k s l : Nat} {T : Tn} (hT : isT S o T) (hv : vK k T) (hk : k ≤ 21) (hs : s < T 0 1) (h1 : 1 ≤ l) (h2 : l ≤ 99) : ∃ S2, F5_stretch o (nI s) (nI l) S = some (nI 0, S2) ∧ isT S2 o (tU T 3 s l) ∧ kp (pT o) S S2 := by
  have h0 := hv.2.2.1
  refine ⟨qup S (o + 3) s (nI l), ?_, isT_st hT (by omega) (by omega) _, kp_up kp_rfl (by simp)⟩
  unfold F5_stretch
  rw [c_hasS_y hT.2.1 (by omega) hs, rol_y h1 h2]
  simp (disch := omega) only [if_pos, if_neg, ite_true, ite_false, not_true_eq_false, Bool.false_eq_true, not_false_eq_true, eq_self, obs, ob1, ob2, obx, opx, li_0, li_1, li_2, li_3, li_4, li_5, li_6, li_7, li_8, li_9, li_10, li_14, li_16, li_20, li_21, li_24, li_25, li_32, li_44, li_48, li_57, li_60, li_64, li_81, li_84, li_99, li_100, li_101, li_108, li_111, li_115, li_116, li_120, li_140, li_255, li_500, li_999, li_1000, li_1092, li_1176, li_10000, li_100000, li_1000000, li_N, li_M, nI_add, pk_mul, pk_sub, pk_div, pk_rem, k_mod, nI_clamp, nI_leI, nI_ltI, nI_eq, qin_nI, nI_m1, nN_lt, nN_lt2, nN_le, nN_le2, nN_eq, nN_eq2, qin_nN, Option.some.injEq, Prod.mk.injEq, Sum.inl.injEq]
theorem c_str_n {S : qSt} {o k : Nat} {x y : Int32} {T : Tn} (hT : isT S o T) (hv : vK k T) (hk : k ≤ 21) (hs : ∀ s, s < T 0 1 → x ≠ nI s) : F5_stretch o x y S = some (nI 1, S) := by
  have h0 := hv.2.2.1
  unfold F5_stretch
  rw [c_hasS_n hT.2.1 (by omega) hs]
  simp (disch := omega) only [if_pos, if_neg, ite_true, ite_false, not_true_eq_false, Bool.false_eq_true, not_false_eq_true, eq_self, obs, ob1, ob2, obx, opx, li_0, li_1, li_2, li_3, li_4, li_5, li_6, li_7, li_8, li_9, li_10, li_14, li_16, li_20, li_21, li_24, li_25, li_32, li_44, li_48, li_57, li_60, li_64, li_81, li_84, li_99, li_100, li_101, li_108, li_111, li_115, li_116, li_120, li_140, li_255, li_500, li_999, li_1000, li_1092, li_1176, li_10000, li_100000, li_1000000, li_N, li_M, nI_add, pk_mul, pk_sub, pk_div, pk_rem, k_mod, nI_clamp, nI_leI, nI_ltI, nI_eq, qin_nI, nI_m1, nN_lt, nN_lt2, nN_le, nN_le2, nN_eq, nN_eq2, qin_nN, Option.some.injEq, Prod.mk.injEq, Sum.inl.injEq]
theorem c_str_l {S : qSt} {o k s : Nat} {y : Int32} {T : Tn} (hT : isT S o T) (hv : vK k T) (hk : k ≤ 21) (hs : s < T 0 1) (h : ∀ l, 1 ≤ l → l ≤ 99 → y ≠ nI l) : F5_stretch o (nI s) y S = some (nI 2, S) := by
  have h0 := hv.2.2.1
  unfold F5_stretch
  rw [c_hasS_y hT.2.1 (by omega) hs, rol_n h]
  simp (disch := omega) only [if_pos, if_neg, ite_true, ite_false, not_true_eq_false, Bool.false_eq_true, not_false_eq_true, eq_self, obs, ob1, ob2, obx, opx, li_0, li_1, li_2, li_3, li_4, li_5, li_6, li_7, li_8, li_9, li_10, li_14, li_16, li_20, li_21, li_24, li_25, li_32, li_44, li_48, li_57, li_60, li_64, li_81, li_84, li_99, li_100, li_101, li_108, li_111, li_115, li_116, li_120, li_140, li_255, li_500, li_999, li_1000, li_1092, li_1176, li_10000, li_100000, li_1000000, li_N, li_M, nI_add, pk_mul, pk_sub, pk_div, pk_rem, k_mod, nI_clamp, nI_leI, nI_ltI, nI_eq, qin_nI, nI_m1, nN_lt, nN_lt2, nN_le, nN_le2, nN_eq, nN_eq2, qin_nN, Option.some.injEq, Prod.mk.injEq, Sum.inl.injEq]
theorem c_lo {S : qSt} {o k s : Nat} {T : Tn} (hT : isT S o T) (hv : vK k T) (hk : k ≤ 21) (hs : s < T 0 1) : F5_lengthOf o (nI s) S = some (nI (T 3 s)) := by
  have h0 := hv.2.2.1
  unfold F5_lengthOf
  rw [c_hasS_y hT.2.1 (by omega) hs]
  simp (disch := omega) only [if_pos, if_neg, ite_true, ite_false, not_true_eq_false, Bool.false_eq_true, not_false_eq_true, eq_self, obs, ob1, ob2, obx, opx, li_0, li_1, li_2, li_3, li_4, li_5, li_6, li_7, li_8, li_9, li_10, li_14, li_16, li_20, li_21, li_24, li_25, li_32, li_44, li_48, li_57, li_60, li_64, li_81, li_84, li_99, li_100, li_101, li_108, li_111, li_115, li_116, li_120, li_140, li_255, li_500, li_999, li_1000, li_1092, li_1176, li_10000, li_100000, li_1000000, li_N, li_M, nI_add, pk_mul, pk_sub, pk_div, pk_rem, k_mod, nI_clamp, nI_leI, nI_ltI, nI_eq, qin_nI, nI_m1, nN_lt, nN_lt2, nN_le, nN_le2, nN_eq, nN_eq2, qin_nN, Option.some.injEq, Prod.mk.injEq, Sum.inl.injEq, (hT.2.2.2.2 s hs).2.2.1]
/-- whether a pair may be -/
theorem c_rp_1 {S : qSt} {o k : Nat} {x y : Int32} {T : Tn} (hT : isT S o T) (hv : vK k T) (h : (∀ j, j < T 0 0 → x ≠ nI j) ∨ (∀ j, j < T 0 0 → y ≠ nI j)) : F5_refusalOfPair o x y S = nI 1 := by
  have h9 := hv.2.1
  unfold F5_refusalOfPair
  by_cases h1 : ∀ j, j < T 0 0 → x ≠ nI j
  · rw [c_hasC_n hT.1 (by omega) h1]
    simp (disch := omega) only [if_pos, if_neg, ite_true, ite_false, not_true_eq_false, Bool.false_eq_true, not_false_eq_true, eq_self, obs, ob1, ob2, obx, opx, li_0, li_1, li_2, li_3, li_4, li_5, li_6, li_7, li_8, li_9, li_10, li_14, li_16, li_20, li_21, li_24, li_25, li_32, li_44, li_48, li_57, li_60, li_64, li_81, li_84, li_99, li_100, li_101, li_108, li_111, li_115, li_116, li_120, li_140, li_255, li_500, li_999, li_1000, li_1092, li_1176, li_10000, li_100000, li_1000000, li_N, li_M, nI_add, pk_mul, pk_sub, pk_div, pk_rem, k_mod, nI_clamp, nI_leI, nI_ltI, nI_eq, qin_nI, nI_m1, nN_lt, nN_lt2, nN_le, nN_le2, nN_eq, nN_eq2, qin_nN, Option.some.injEq, Prod.mk.injEq, Sum.inl.injEq]
  · rcases h with h | h
    · exact absurd h h1
    · rw [c_hasC_n hT.1 (by omega) h]
      simp (disch := omega) only [if_pos, if_neg, ite_true, ite_false, not_true_eq_false, Bool.false_eq_true, not_false_eq_true, eq_self, obs, ob1, ob2, obx, opx, li_0, li_1, li_2, li_3, li_4, li_5, li_6, li_7, li_8, li_9, li_10, li_14, li_16, li_20, li_21, li_24, li_25, li_32, li_44, li_48, li_57, li_60, li_64, li_81, li_84, li_99, li_100, li_101, li_108, li_111, li_115, li_116, li_120, li_140, li_255, li_500, li_999, li_1000, li_1092, li_1176, li_10000, li_100000, li_1000000, li_N, li_M, nI_add, pk_mul, pk_sub, pk_div, pk_rem, k_mod, nI_clamp, nI_leI, nI_ltI, nI_eq, qin_nI, nI_m1, nN_lt, nN_lt2, nN_le, nN_le2, nN_eq, nN_eq2, qin_nN, Option.some.injEq, Prod.mk.injEq, Sum.inl.injEq]
      split <;> rfl
theorem c_rp_2 {S : qSt} {o k a : Nat} {T : Tn} (hT : isT S o T) (hv : vK k T) (h : a < T 0 0) : F5_refusalOfPair o (nI a) (nI a) S = nI 2 := by
  have h9 := hv.2.1
  unfold F5_refusalOfPair
  rw [c_hasC_y hT.1 (by omega) h]
  simp (disch := omega) only [if_pos, if_neg, ite_true, ite_false, not_true_eq_false, Bool.false_eq_true, not_false_eq_true, eq_self, obs, ob1, ob2, obx, opx, li_0, li_1, li_2, li_3, li_4, li_5, li_6, li_7, li_8, li_9, li_10, li_14, li_16, li_20, li_21, li_24, li_25, li_32, li_44, li_48, li_57, li_60, li_64, li_81, li_84, li_99, li_100, li_101, li_108, li_111, li_115, li_116, li_120, li_140, li_255, li_500, li_999, li_1000, li_1092, li_1176, li_10000, li_100000, li_1000000, li_N, li_M, nI_add, pk_mul, pk_sub, pk_div, pk_rem, k_mod, nI_clamp, nI_leI, nI_ltI, nI_eq, qin_nI, nI_m1, nN_lt, nN_lt2, nN_le, nN_le2, nN_eq, nN_eq2, qin_nN, Option.some.injEq, Prod.mk.injEq, Sum.inl.injEq]
theorem c_rp_0 {S : qSt} {o k a b : Nat} {T : Tn} (hT : isT S o T) (hv : vK k T) (ha : a < T 0 0) (hb : b < T 0 0) (hab : a ≠ b) : F5_refusalOfPair o (nI a) (nI b) S = nI 0 := by
  have h9 := hv.2.1
  unfold F5_refusalOfPair
  rw [c_hasC_y hT.1 (by omega) ha, c_hasC_y hT.1 (by omega) hb]
  simp (disch := omega) only [if_pos, if_neg, ite_true, ite_false, not_true_eq_false, Bool.false_eq_true, not_false_eq_true, eq_self, obs, ob1, ob2, obx, opx, li_0, li_1, li_2, li_3, li_4, li_5, li_6, li_7, li_8, li_9, li_10, li_14, li_16, li_20, li_21, li_24, li_25, li_32, li_44, li_48, li_57, li_60, li_64, li_81, li_84, li_99, li_100, li_101, li_108, li_111, li_115, li_116, li_120, li_140, li_255, li_500, li_999, li_1000, li_1092, li_1176, li_10000, li_100000, li_1000000, li_N, li_M, nI_add, pk_mul, pk_sub, pk_div, pk_rem, k_mod, nI_clamp, nI_leI, nI_ltI, nI_eq, qin_nI, nI_m1, nN_lt, nN_lt2, nN_le, nN_le2, nN_eq, nN_eq2, qin_nN, Option.some.injEq, Prod.mk.injEq, Sum.inl.injEq]
theorem c_dir_0 {S : qSt} {o k a b : Nat} {T : Tn} (hT : isT S o T) (hv : vK k T) (ha : a < T 0 0) (hb : b < T 0 0) (hab : a ≠ b) : ∃ S2, F5_direct o (nI a) (nI b) S = some (nI 0, S2) ∧ isT S2 o (tU (tU T 0 2 a) 0 3 b) ∧ kp (pT o) S S2 := by
  refine ⟨qup (qup S o 2 (nI a)) o 3 (nI b), ?_, isT_hd (isT_hd hT (by omega) (by omega) _) (by omega) (by omega) _, kp_up (kp_up kp_rfl (by simp)) (by simp)⟩
  unfold F5_direct
  rw [c_rp_0 hT hv ha hb hab]
  simp (disch := omega) only [if_pos, if_neg, ite_true, ite_false, not_true_eq_false, Bool.false_eq_true, not_false_eq_true, eq_self, obs, ob1, ob2, obx, opx, li_0, li_1, li_2, li_3, li_4, li_5, li_6, li_7, li_8, li_9, li_10, li_14, li_16, li_20, li_21, li_24, li_25, li_32, li_44, li_48, li_57, li_60, li_64, li_81, li_84, li_99, li_100, li_101, li_108, li_111, li_115, li_116, li_120, li_140, li_255, li_500, li_999, li_1000, li_1092, li_1176, li_10000, li_100000, li_1000000, li_N, li_M, nI_add, pk_mul, pk_sub, pk_div, pk_rem, k_mod, nI_clamp, nI_leI, nI_ltI, nI_eq, qin_nI, nI_m1, nN_lt, nN_lt2, nN_le, nN_le2, nN_eq, nN_eq2, qin_nN, Option.some.injEq, Prod.mk.injEq, Sum.inl.injEq]
theorem c_dir_1 {S : qSt} {o k : Nat} {x y : Int32} {T : Tn} (hT : isT S o T) (hv : vK k T) (h : (∀ j, j < T 0 0 → x ≠ nI j) ∨ (∀ j, j < T 0 0 → y ≠ nI j)) : F5_direct o x y S = some (nI 1, S) := by
  unfold F5_direct
  rw [c_rp_1 hT hv h]
  simp (disch := omega) only [if_pos, if_neg, ite_true, ite_false, not_true_eq_false, Bool.false_eq_true, not_false_eq_true, eq_self, obs, ob1, ob2, obx, opx, li_0, li_1, li_2, li_3, li_4, li_5, li_6, li_7, li_8, li_9, li_10, li_14, li_16, li_20, li_21, li_24, li_25, li_32, li_44, li_48, li_57, li_60, li_64, li_81, li_84, li_99, li_100, li_101, li_108, li_111, li_115, li_116, li_120, li_140, li_255, li_500, li_999, li_1000, li_1092, li_1176, li_10000, li_100000, li_1000000, li_N, li_M, nI_add, pk_mul, pk_sub, pk_div, pk_rem, k_mod, nI_clamp, nI_leI, nI_ltI, nI_eq, qin_nI, nI_m1, nN_lt, nN_lt2, nN_le, nN_le2, nN_eq, nN_eq2, qin_nN, Option.some.injEq, Prod.mk.injEq, Sum.inl.injEq]
theorem c_dir_2 {S : qSt} {o k a : Nat} {T : Tn} (hT : isT S o T) (hv : vK k T) (h : a < T 0 0) : F5_direct o (nI a) (nI a) S = some (nI 2, S) := by
  unfold F5_direct
  rw [c_rp_2 hT hv h]
  simp (disch := omega) only [if_pos, if_neg, ite_true, ite_false, not_true_eq_false, Bool.false_eq_true, not_false_eq_true, eq_self, obs, ob1, ob2, obx, opx, li_0, li_1, li_2, li_3, li_4, li_5, li_6, li_7, li_8, li_9, li_10, li_14, li_16, li_20, li_21, li_24, li_25, li_32, li_44, li_48, li_57, li_60, li_64, li_81, li_84, li_99, li_100, li_101, li_108, li_111, li_115, li_116, li_120, li_140, li_255, li_500, li_999, li_1000, li_1092, li_1176, li_10000, li_100000, li_1000000, li_N, li_M, nI_add, pk_mul, pk_sub, pk_div, pk_rem, k_mod, nI_clamp, nI_leI, nI_ltI, nI_eq, qin_nI, nI_m1, nN_lt, nN_lt2, nN_le, nN_le2, nN_eq, nN_eq2, qin_nN, Option.some.injEq, Prod.mk.injEq, Sum.inl.injEq]
