/-! TOWNS: T 0 0 crossings, T 0 1 streets, T 0 2 start, T 0 3 goal; of street s: T 1 s lower, T 2 s higher, T 3 s length, T 4 s closed -/
abbrev Tn : Type := Nat → Nat → Nat
def isT (S : qSt) (o : Nat) (T : Tn) : Prop := S o 0 = nI (T 0 0) ∧ S o 1 = nI (T 0 1) ∧ S o 2 = nI (T 0 2) ∧ S o 3 = nI (T 0 3) ∧ ∀ s, s < T 0 1 → S (o + 1) s = nI (T 1 s) ∧ S (o + 2) s = nI (T 2 s) ∧ S (o + 3) s = nI (T 3 s) ∧ S (o + 4) s = nI (T 4 s)
def isM (S : qSt) (m b : Nat) (T : Tn) : Prop := S m b = nI (T 0 0) ∧ S m (b + 1) = nI (T 0 1) ∧ S m (b + 2) = nI (T 0 2) ∧ S m (b + 3) = nI (T 0 3) ∧ ∀ s, s < T 0 1 → ((S m (b + (4 + s)) = nI (T 1 s) ∧ S m (b + (24 + s)) = nI (T 2 s)) ∨ (S m (b + (4 + s)) = nI (T 2 s) ∧ S m (b + (24 + s)) = nI (T 1 s))) ∧ S m (b + (44 + s)) = nI (T 3 s) ∧ S m (b + (64 + s)) = nI (T 4 s)
/-- a town of at most k streets -/
def vK (k : Nat) (T : Tn) : Prop := 2 ≤ T 0 0 ∧ T 0 0 ≤ 9 ∧ T 0 1 ≤ k ∧ T 0 2 < T 0 0 ∧ T 0 3 < T 0 0 ∧ T 0 2 ≠ T 0 3 ∧ (∀ s, s < T 0 1 → T 1 s < T 2 s ∧ T 2 s < T 0 0 ∧ 1 ≤ T 3 s ∧ T 3 s ≤ 99 ∧ T 4 s ≤ 1) ∧ ∀ s r, s < T 0 1 → r < T 0 1 → T 1 s = T 1 r → T 2 s = T 2 r → s = r
abbrev vT (T : Tn) : Prop := vK 20 T
theorem vK_mono {k j : Nat} {T : Tn} (h : vK k T) (hk : k ≤ j) : vK j T := ⟨h.1, h.2.1, Nat.le_trans h.2.2.1 hk, h.2.2.2⟩
/-- the same street tables -/
theorem isT_kp {S S2 : qSt} {o : Nat} {T : Tn} {P : List Nat} (h : isT S o T) (k : kp P S S2) (h0 : o ∉ P) (h1 : o + 1 ∉ P) (h2 : o + 2 ∉ P) (h3 : o + 3 ∉ P) (h4 : o + 4 ∉ P) : isT S2 o T := by
  unfold isT
  rw [k o h0, k _ h1, k _ h2, k _ h3, k _ h4]
  exact h
theorem isM_kp {S S2 : qSt} {m b : Nat} {T : Tn} {P : List Nat} (h : isM S m b T) (k : kp P S S2) (h0 : m ∉ P) : isM S2 m b T := by
  unfold isM
  rw [k m h0]
  exact h
theorem c_hasC_y {S : qSt} {o c j : Nat} (h : S o 0 = nI c) (hc : c < 2 ^ 31) (hj : j < c) : F5_hasCrossing o (nI j) S = nI 1 := by
  unfold F5_hasCrossing
  simp (disch := omega) only [if_pos, if_neg, ite_true, ite_false, not_true_eq_false, Bool.false_eq_true, not_false_eq_true, eq_self, obs, ob1, ob2, obx, opx, li_0, li_1, li_2, li_3, li_4, li_5, li_6, li_7, li_8, li_9, li_10, li_14, li_16, li_20, li_21, li_24, li_25, li_32, li_44, li_48, li_57, li_60, li_64, li_81, li_84, li_99, li_100, li_101, li_108, li_111, li_115, li_116, li_120, li_140, li_255, li_500, li_999, li_1000, li_1092, li_1176, li_10000, li_100000, li_1000000, li_N, li_M, nI_add, pk_mul, pk_sub, pk_div, pk_rem, k_mod, nI_clamp, nI_leI, nI_ltI, nI_eq, qin_nI, nI_m1, nN_lt, nN_lt2, nN_le, nN_le2, nN_eq, nN_eq2, qin_nN, Option.some.injEq, Prod.mk.injEq, Sum.inl.injEq, h]
theorem ix_no {x : Int32} {c : Nat} (hc : c < 2 ^ 31) (h : ∀ j, j < c → x ≠ nI j) : x < 0 ∨ nI c ≤ x := by
  rcases ix x c hc with ⟨j, hj, e⟩ | h2
  · exact absurd e (h j hj)
  · exact h2.2
theorem c_hasC_n {S : qSt} {o c : Nat} {x : Int32} (h : S o 0 = nI c) (hc : c < 2 ^ 31) (hj : ∀ j, j < c → x ≠ nI j) : F5_hasCrossing o x S = nI 0 := by
  unfold F5_hasCrossing
  rw [h]
  rcases ix_no hc hj with q | q
  · rw [if_pos q]
    rfl
  · rw [if_pos q]
    split <;> rfl
theorem c_hasS_y {S : qSt} {o c j : Nat} (h : S o 1 = nI c) (hc : c < 2 ^ 31) (hj : j < c) : F5_hasStreet o (nI j) S = nI 1 := by
  unfold F5_hasStreet
  simp (disch := omega) only [if_pos, if_neg, ite_true, ite_false, not_true_eq_false, Bool.false_eq_true, not_false_eq_true, eq_self, obs, ob1, ob2, obx, opx, li_0, li_1, li_2, li_3, li_4, li_5, li_6, li_7, li_8, li_9, li_10, li_14, li_16, li_20, li_21, li_24, li_25, li_32, li_44, li_48, li_57, li_60, li_64, li_81, li_84, li_99, li_100, li_101, li_108, li_111, li_115, li_116, li_120, li_140, li_255, li_500, li_999, li_1000, li_1092, li_1176, li_10000, li_100000, li_1000000, li_N, li_M, nI_add, pk_mul, pk_sub, pk_div, pk_rem, k_mod, nI_clamp, nI_leI, nI_ltI, nI_eq, qin_nI, nI_m1, nN_lt, nN_lt2, nN_le, nN_le2, nN_eq, nN_eq2, qin_nN, Option.some.injEq, Prod.mk.injEq, Sum.inl.injEq, h]
theorem c_hasS_n {S : qSt} {o c : Nat} {x : Int32} (h : S o 1 = nI c) (hc : c < 2 ^ 31) (hj : ∀ j, j < c → x ≠ nI j) : F5_hasStreet o x S = nI 0 := by
  unfold F5_hasStreet
  rw [h]
  rcases ix_no hc hj with q | q
  · rw [if_pos q]
    rfl
  · rw [if_pos q]
    split <;> rfl
theorem m_isC_y {S : qSt} {a c j : Nat} (hk : (kd a).2 = 84) (h : S a 0 = nI c) (hc : c < 2 ^ 31) (hj : j < c) : F8_isCrossing a (nI j) S = some (nI 1) := by
  unfold F8_isCrossing
  rw [hk, if_pos (by decide +kernel)]
  show (if F8_in (nI j).toInt64 (nI 0).toInt64 (S a 0 - 1).toInt64 S &&& 1 = F8_in (nI j).toInt64 (nI 0).toInt64 (S a 0 - 1).toInt64 S then some (F8_in (nI j).toInt64 (nI 0).toInt64 (S a 0 - 1).toInt64 S) else none) = _
  rw [h, show nI c - 1 = nI (c - 1) from pk_sub (b := 1) (by omega), in_y S (Nat.zero_le _) (by omega) (by omega), if_pos (by decide +kernel)]
theorem m_isC_n {S : qSt} {a c : Nat} {x : Int32} (hk : (kd a).2 = 84) (h : S a 0 = nI c) (hc : c < 2 ^ 31) (hc0 : 0 < c) (hj : ∀ j, j < c → x ≠ nI j) : F8_isCrossing a x S = some (nI 0) := by
  unfold F8_isCrossing
  rw [hk, if_pos (by decide +kernel)]
  show (if F8_in x.toInt64 (nI 0).toInt64 (S a 0 - 1).toInt64 S &&& 1 = F8_in x.toInt64 (nI 0).toInt64 (S a 0 - 1).toInt64 S then some (F8_in x.toInt64 (nI 0).toInt64 (S a 0 - 1).toInt64 S) else none) = _
  rw [h, show nI c - 1 = nI (c - 1) from pk_sub (b := 1) (by omega), in_n S (fun j _ h2 => hj j (by omega)) (by omega) (by omega), if_pos (by decide +kernel)]
theorem m_isS_y {S : qSt} {a c j : Nat} (hk : (kd a).2 = 84) (h : S a 1 = nI c) (hc : c < 2 ^ 31) (hj : j < c) : F8_isStreet a (nI j) S = some (nI 1) := by
  unfold F8_isStreet
  rw [hk, if_pos (by decide +kernel)]
  show (if F8_in (nI j).toInt64 (nI 0).toInt64 (S a 1 - 1).toInt64 S &&& 1 = F8_in (nI j).toInt64 (nI 0).toInt64 (S a 1 - 1).toInt64 S then some (F8_in (nI j).toInt64 (nI 0).toInt64 (S a 1 - 1).toInt64 S) else none) = _
  rw [h, show nI c - 1 = nI (c - 1) from pk_sub (b := 1) (by omega), in_y S (Nat.zero_le _) (by omega) (by omega), if_pos (by decide +kernel)]
theorem in_0 {x hi : Int32} (S : qSt) (h : hi < 0) : F8_in x.toInt64 (nI 0).toInt64 hi.toInt64 S = nI 0 := by
  rw [in32]
  by_cases h1 : x < nI 0
  · rw [if_pos h1]
    rfl
  · rw [if_neg h1, if_pos]
    · rfl
    · rw [Int32.lt_iff_toInt_lt] at *
      have : (0 : Int32).toInt = 0 := rfl
      have : (nI 0).toInt = 0 := rfl
      omega
theorem m_isS_n {S : qSt} {a c : Nat} {x : Int32} (hk : (kd a).2 = 84) (h : S a 1 = nI c) (hc : c < 2 ^ 31) (hj : ∀ j, j < c → x ≠ nI j) : F8_isStreet a x S = some (nI 0) := by
  unfold F8_isStreet
  rw [hk, if_pos (by decide +kernel)]
  show (if F8_in x.toInt64 (nI 0).toInt64 (S a 1 - 1).toInt64 S &&& 1 = F8_in x.toInt64 (nI 0).toInt64 (S a 1 - 1).toInt64 S then some (F8_in x.toInt64 (nI 0).toInt64 (S a 1 - 1).toInt64 S) else none) = _
  by_cases hc0 : c = 0
  · rw [h, hc0, in_0 S (by decide +kernel), if_pos (by decide +kernel)]
  · rw [h, show nI c - 1 = nI (c - 1) from pk_sub (b := 1) (by omega), in_n S (fun j _ h2 => hj j (by omega)) (by omega) (by omega), if_pos (by decide +kernel)]
/-- the street that joins two -/
def pj (T : Tn) (a b : Nat) (s : Nat) : Bool := decide (T 1 s = min a b ∧ T 2 s = max a b)
def tj (T : Tn) (a b : Nat) : Int32 := ff (pj T a b) (T 0 1) 0
theorem fuel_s {f j : Nat} (h : j < f) : ∃ g, f = g + 1 ∧ j ≤ g := ⟨f - 1, by omega, by omega⟩
theorem c_sj_loop {S : qSt} {o n k : Nat} {T : Tn} (hT : isT S o T) (hv : vK k T) (hk : k ≤ 21) {a b : Nat} (ha : a < 9) (hb : b < 9) : ∀ j s f, s + j = T 0 1 → j < f → B5_streetJoining_2 n o f (nI a) (nI b) (nI s) S = some (ff (pj T a b) j s) := by
  have h1 := hT.2.1
  have hn := hv.2.2.1
  intro j
  induction j with
  | zero =>
    intro s f hs hf
    obtain ⟨g, rfl, hg⟩ := fuel_s hf
    rw [B5_streetJoining_2]
    simp (disch := omega) only [if_pos, if_neg, ite_true, ite_false, not_true_eq_false, Bool.false_eq_true, not_false_eq_true, eq_self, obs, ob1, ob2, obx, opx, li_0, li_1, li_2, li_3, li_4, li_5, li_6, li_7, li_8, li_9, li_10, li_14, li_16, li_20, li_21, li_24, li_25, li_32, li_44, li_48, li_57, li_60, li_64, li_81, li_84, li_99, li_100, li_101, li_108, li_111, li_115, li_116, li_120, li_140, li_255, li_500, li_999, li_1000, li_1092, li_1176, li_10000, li_100000, li_1000000, li_N, li_M, nI_add, pk_mul, pk_sub, pk_div, pk_rem, k_mod, nI_clamp, nI_leI, nI_ltI, nI_eq, qin_nI, nI_m1, nN_lt, nN_lt2, nN_le, nN_le2, nN_eq, nN_eq2, qin_nN, Option.some.injEq, Prod.mk.injEq, Sum.inl.injEq, h1, ff]
  | succ j ih =>
    intro s f hs hf
    obtain ⟨g, rfl, hg⟩ := fuel_s hf
    obtain ⟨t1, t2, t3, t4⟩ := hT.2.2.2.2 s (by omega)
    obtain ⟨v1, v2, v3, v4, v5⟩ := hv.2.2.2.2.2.2.1 s (by omega)
    have v0 := hv.2.1
    rw [B5_streetJoining_2]
    simp (disch := omega) only [if_pos, if_neg, ite_true, ite_false, not_true_eq_false, Bool.false_eq_true, not_false_eq_true, eq_self, obs, ob1, ob2, obx, opx, li_0, li_1, li_2, li_3, li_4, li_5, li_6, li_7, li_8, li_9, li_10, li_14, li_16, li_20, li_21, li_24, li_25, li_32, li_44, li_48, li_57, li_60, li_64, li_81, li_84, li_99, li_100, li_101, li_108, li_111, li_115, li_116, li_120, li_140, li_255, li_500, li_999, li_1000, li_1092, li_1176, li_10000, li_100000, li_1000000, li_N, li_M, nI_add, pk_mul, pk_sub, pk_div, pk_rem, k_mod, nI_clamp, nI_leI, nI_ltI, nI_eq, qin_nI, nI_m1, nN_lt, nN_lt2, nN_le, nN_le2, nN_eq, nN_eq2, qin_nN, Option.some.injEq, Prod.mk.injEq, Sum.inl.injEq, h1, t1, t2, ite_min, ite_max, B5_streetJoining_40]
    rw [ih (s + 1) g (by omega) (by omega), ff]
    by_cases c1 : T 1 s = min a b
    · by_cases c2 : T 2 s = max a b
      · simp [pj, c1, c2]
      · simp [pj, c1, c2]
    · simp [pj, c1]
theorem c_sj {S : qSt} {o n k : Nat} {T : Tn} (hT : isT S o T) (hv : vK k T) (hk : k ≤ 21) {a b : Nat} (ha : a < 9) (hb : b < 9) (hn : 100 ≤ n) : F5_streetJoining n o (nI a) (nI b) S = some (tj T a b) := by
  have h0 := hv.2.2.1
  exact c_sj_loop hT hv hk ha hb (T 0 1) 0 n (by omega) (by omega)
theorem m_j_loop {S : qSt} {m n : Nat} {T : Tn} (hk : (kd m).2 = 84) (hT : isM S m 0 T) (hv : vT T) {a b : Nat} (ha : a < 9) (hb : b < 9) : ∀ j s f, s + j = T 0 1 → j < f → B8_joined_2 n m f (nI a) (nI b) (nI s) S = some (ff (pj T a b) j s) := by
  have h1 : S m 1 = nI (T 0 1) := hT.2.1
  have hn := hv.2.2.1
  intro j
  induction j with
  | zero =>
    intro s f hs hf
    obtain ⟨g, rfl, hg⟩ := fuel_s hf
    rw [B8_joined_2]
    simp (disch := omega) only [if_pos, if_neg, ite_true, ite_false, not_true_eq_false, Bool.false_eq_true, not_false_eq_true, eq_self, obs, ob1, ob2, obx, opx, li_0, li_1, li_2, li_3, li_4, li_5, li_6, li_7, li_8, li_9, li_10, li_14, li_16, li_20, li_21, li_24, li_25, li_32, li_44, li_48, li_57, li_60, li_64, li_81, li_84, li_99, li_100, li_101, li_108, li_111, li_115, li_116, li_120, li_140, li_255, li_500, li_999, li_1000, li_1092, li_1176, li_10000, li_100000, li_1000000, li_N, li_M, nI_add, pk_mul, pk_sub, pk_div, pk_rem, k_mod, nI_clamp, nI_leI, nI_ltI, nI_eq, qin_nI, nI_m1, nN_lt, nN_lt2, nN_le, nN_le2, nN_eq, nN_eq2, qin_nN, Option.some.injEq, Prod.mk.injEq, Sum.inl.injEq, h1, hk, ff]
  | succ j ih =>
    intro s f hs hf
    obtain ⟨g, rfl, hg⟩ := fuel_s hf
    obtain ⟨t1, t3, t4⟩ := hT.2.2.2.2 s (by omega)
    obtain ⟨v1, v2, v3, v4, v5⟩ := hv.2.2.2.2.2.2.1 s (by omega)
    have v0 := hv.2.1
    simp only [Nat.zero_add] at t1
    rw [B8_joined_2]
    rcases t1 with ⟨t1, t2⟩ | ⟨t1, t2⟩
    · simp (disch := omega) only [if_pos, if_neg, ite_true, ite_false, not_true_eq_false, Bool.false_eq_true, not_false_eq_true, eq_self, obs, ob1, ob2, obx, opx, li_0, li_1, li_2, li_3, li_4, li_5, li_6, li_7, li_8, li_9, li_10, li_14, li_16, li_20, li_21, li_24, li_25, li_32, li_44, li_48, li_57, li_60, li_64, li_81, li_84, li_99, li_100, li_101, li_108, li_111, li_115, li_116, li_120, li_140, li_255, li_500, li_999, li_1000, li_1092, li_1176, li_10000, li_100000, li_1000000, li_N, li_M, nI_add, pk_mul, pk_sub, pk_div, pk_rem, k_mod, nI_clamp, nI_leI, nI_ltI, nI_eq, qin_nI, nI_m1, nN_lt, nN_lt2, nN_le, nN_le2, nN_eq, nN_eq2, qin_nN, Option.some.injEq, Prod.mk.injEq, Sum.inl.injEq, h1, hk, t1, t2, B8_joined_28, B8_joined_49]
      rw [ih (s + 1) g (by omega) (by omega), ff]
      by_cases c : pj T a b s = true
      · rw [if_pos c]
        simp only [pj, decide_eq_true_eq] at c
        repeat' split
        all_goals first | rfl | omega
      · rw [if_neg c]
        simp only [pj, decide_eq_true_eq] at c
        repeat' split
        all_goals first | rfl | omega
    · simp (disch := omega) only [if_pos, if_neg, ite_true, ite_false, not_true_eq_false, Bool.false_eq_true, not_false_eq_true, eq_self, obs, ob1, ob2, obx, opx, li_0, li_1, li_2, li_3, li_4, li_5, li_6, li_7, li_8, li_9, li_10, li_14, li_16, li_20, li_21, li_24, li_25, li_32, li_44, li_48, li_57, li_60, li_64, li_81, li_84, li_99, li_100, li_101, li_108, li_111, li_115, li_116, li_120, li_140, li_255, li_500, li_999, li_1000, li_1092, li_1176, li_10000, li_100000, li_1000000, li_N, li_M, nI_add, pk_mul, pk_sub, pk_div, pk_rem, k_mod, nI_clamp, nI_leI, nI_ltI, nI_eq, qin_nI, nI_m1, nN_lt, nN_lt2, nN_le, nN_le2, nN_eq, nN_eq2, qin_nN, Option.some.injEq, Prod.mk.injEq, Sum.inl.injEq, h1, hk, t1, t2, B8_joined_28, B8_joined_49]
      rw [ih (s + 1) g (by omega) (by omega), ff]
      by_cases c : pj T a b s = true
      · rw [if_pos c]
        simp only [pj, decide_eq_true_eq] at c
        repeat' split
        all_goals first | rfl | omega
      · rw [if_neg c]
        simp only [pj, decide_eq_true_eq] at c
        repeat' split
        all_goals first | rfl | omega
theorem m_j {S : qSt} {m n : Nat} {T : Tn} (hk : (kd m).2 = 84) (hT : isM S m 0 T) (hv : vT T) {a b : Nat} (ha : a < 9) (hb : b < 9) (hn : 100 ≤ n) : F8_joined n m (nI a) (nI b) S = some (tj T a b) := by
  have h0 := hv.2.2.1
  exact m_j_loop hk hT hv ha hb (T 0 1) 0 n (by omega) (by omega)
