theorem tP_ins {T : Tn} {s a b l i k : Nat} (hi : i ≠ 0) (hk : k ≠ s) : tP T s a b l i k = T i k := by
  unfold tP
  rw [if_neg hi, if_neg hk]
/-- validity of changed towns -/
theorem vK_grow {k : Nat} {T : Tn} (hv : vK k T) (h9 : T 0 0 < 9) : vK k (tU T 0 0 (T 0 0 + 1)) := by
  obtain ⟨v0, v1, v2, v3, v4, v5, v6, v7⟩ := hv
  refine ⟨?_, ?_, ?_, ?_, ?_, ?_, fun s hs => ?_, fun s r hs hr => ?_⟩
  · simp (disch := omega) only [qup_e, if_pos, if_neg, ite_true, ite_false, eq_self, and_self, true_and, and_true, tU]
    omega
  · simp (disch := omega) only [qup_e, if_pos, if_neg, ite_true, ite_false, eq_self, and_self, true_and, and_true, tU]
    omega
  · simp (disch := omega) only [qup_e, if_pos, if_neg, ite_true, ite_false, eq_self, and_self, true_and, and_true, tU]
    omega
  · simp (disch := omega) only [qup_e, if_pos, if_neg, ite_true, ite_false, eq_self, and_self, true_and, and_true, tU]
    omega
  · simp (disch := omega) only [qup_e, if_pos, if_neg, ite_true, ite_false, eq_self, and_self, true_and, and_true, tU]
    omega
  · simp (disch := omega) only [qup_e, if_pos, if_neg, ite_true, ite_false, eq_self, and_self, true_and, and_true, tU]
    omega
  · have q : tU T 0 0 (T 0 0 + 1) 0 1 = T 0 1 := by simp (disch := omega) only [qup_e, if_pos, if_neg, ite_true, ite_false, eq_self, and_self, true_and, and_true, tU]
    rw [q] at hs
    have := v6 s hs
    simp (disch := omega) only [qup_e, if_pos, if_neg, ite_true, ite_false, eq_self, and_self, true_and, and_true, tU]
    omega
  · have q : tU T 0 0 (T 0 0 + 1) 0 1 = T 0 1 := by simp (disch := omega) only [qup_e, if_pos, if_neg, ite_true, ite_false, eq_self, and_self, true_and, and_true, tU]
    rw [q] at hs hr
    simp (disch := omega) only [qup_e, if_pos, if_neg, ite_true, ite_false, eq_self, and_self, true_and, and_true, tU]
    exact v7 s r hs hr
theorem vK_shut {k s b : Nat} {T : Tn} (hv : vK k T) (hb : b ≤ 1) : vK k (tU T 4 s b) := by
  obtain ⟨v0, v1, v2, v3, v4, v5, v6, v7⟩ := hv
  have q : ∀ x, tU T 4 s b 0 x = T 0 x := fun x => by simp (disch := omega) only [qup_e, if_pos, if_neg, ite_true, ite_false, eq_self, and_self, true_and, and_true, tU]
  have q1 : ∀ x, tU T 4 s b 1 x = T 1 x := fun x => by simp (disch := omega) only [qup_e, if_pos, if_neg, ite_true, ite_false, eq_self, and_self, true_and, and_true, tU]
  have q2 : ∀ x, tU T 4 s b 2 x = T 2 x := fun x => by simp (disch := omega) only [qup_e, if_pos, if_neg, ite_true, ite_false, eq_self, and_self, true_and, and_true, tU]
  have q3 : ∀ x, tU T 4 s b 3 x = T 3 x := fun x => by simp (disch := omega) only [qup_e, if_pos, if_neg, ite_true, ite_false, eq_self, and_self, true_and, and_true, tU]
  have q4 : ∀ x, tU T 4 s b 4 x = if x = s then b else T 4 x := fun x => by simp (disch := omega) only [qup_e, if_pos, if_neg, ite_true, ite_false, eq_self, and_self, true_and, and_true, tU]
  unfold vK
  simp only [q, q1, q2, q3, q4]
  refine ⟨v0, v1, v2, v3, v4, v5, fun x hx => ?_, v7⟩
  have := v6 x hx
  refine ⟨this.1, this.2.1, this.2.2.1, this.2.2.2.1, ?_⟩
  split <;> omega
theorem vK_str {k s l : Nat} {T : Tn} (hv : vK k T) (h1 : 1 ≤ l) (h2 : l ≤ 99) : vK k (tU T 3 s l) := by
  obtain ⟨v0, v1, v2, v3, v4, v5, v6, v7⟩ := hv
  have q : ∀ x, tU T 3 s l 0 x = T 0 x := fun x => by simp (disch := omega) only [qup_e, if_pos, if_neg, ite_true, ite_false, eq_self, and_self, true_and, and_true, tU]
  have q1 : ∀ x, tU T 3 s l 1 x = T 1 x := fun x => by simp (disch := omega) only [qup_e, if_pos, if_neg, ite_true, ite_false, eq_self, and_self, true_and, and_true, tU]
  have q2 : ∀ x, tU T 3 s l 2 x = T 2 x := fun x => by simp (disch := omega) only [qup_e, if_pos, if_neg, ite_true, ite_false, eq_self, and_self, true_and, and_true, tU]
  have q4 : ∀ x, tU T 3 s l 4 x = T 4 x := fun x => by simp (disch := omega) only [qup_e, if_pos, if_neg, ite_true, ite_false, eq_self, and_self, true_and, and_true, tU]
  have q3 : ∀ x, tU T 3 s l 3 x = if x = s then l else T 3 x := fun x => by simp (disch := omega) only [qup_e, if_pos, if_neg, ite_true, ite_false, eq_self, and_self, true_and, and_true, tU]
  unfold vK
  simp only [q, q1, q2, q3, q4]
  refine ⟨v0, v1, v2, v3, v4, v5, fun x hx => ?_, v7⟩
  have := v6 x hx
  refine ⟨this.1, this.2.1, ?_, ?_, this.2.2.2.2⟩ <;> split <;> omega
theorem vK_dir {k a b : Nat} {T : Tn} (hv : vK k T) (ha : a < T 0 0) (hb : b < T 0 0) (hab : a ≠ b) : vK k (tU (tU T 0 2 a) 0 3 b) := by
  obtain ⟨v0, v1, v2, v3, v4, v5, v6, v7⟩ := hv
  have q0 : tU (tU T 0 2 a) 0 3 b 0 0 = T 0 0 := by simp (disch := omega) only [qup_e, if_pos, if_neg, ite_true, ite_false, eq_self, and_self, true_and, and_true, tU]
  have q1 : tU (tU T 0 2 a) 0 3 b 0 1 = T 0 1 := by simp (disch := omega) only [qup_e, if_pos, if_neg, ite_true, ite_false, eq_self, and_self, true_and, and_true, tU]
  have q2 : tU (tU T 0 2 a) 0 3 b 0 2 = a := by simp (disch := omega) only [qup_e, if_pos, if_neg, ite_true, ite_false, eq_self, and_self, true_and, and_true, tU]
  have q3 : tU (tU T 0 2 a) 0 3 b 0 3 = b := by simp (disch := omega) only [qup_e, if_pos, if_neg, ite_true, ite_false, eq_self, and_self, true_and, and_true, tU]
  have q : ∀ i x, 0 < i → tU (tU T 0 2 a) 0 3 b i x = T i x := fun i x hi => by simp (disch := omega) only [qup_e, if_pos, if_neg, ite_true, ite_false, eq_self, and_self, true_and, and_true, tU]
  unfold vK
  rw [q0, q1, q2, q3]
  refine ⟨v0, v1, v2, ha, hb, hab, fun x hx => ?_, fun x y hx hy => ?_⟩
  · rw [q 1 _ (by omega), q 2 _ (by omega), q 3 _ (by omega), q 4 _ (by omega)]
    exact v6 x hx
  · rw [q 1 _ (by omega), q 2 _ (by omega), q 1 _ (by omega), q 2 _ (by omega)]
    exact v7 x y hx hy
theorem tR_0 {T : Tn} {s : Nat} : tR T s 0 1 = T 0 1 - 1 := by
  unfold tR
  simp
theorem tR_h {T : Tn} {s x : Nat} (h : x ≠ 1) : tR T s 0 x = T 0 x := by
  unfold tR
  simp [h]
theorem tR_s {T : Tn} {s i x : Nat} (h : 0 < i) : tR T s i x = if x < s then T i x else T i (x + 1) := by
  unfold tR
  rw [if_neg (by omega)]
theorem vK_rem {k s : Nat} {T : Tn} (hv : vK k T) (hs : s < T 0 1) : vK k (tR T s) := by
  obtain ⟨v0, v1, v2, v3, v4, v5, v6, v7⟩ := hv
  unfold vK
  rw [tR_0, tR_h (by omega), tR_h (by omega), tR_h (by omega)]
  refine ⟨v0, v1, by omega, v3, v4, v5, fun x hx => ?_, fun x y hx hy => ?_⟩
  · simp (disch := omega) only [tR_s]
    have g1 := v6 x (by omega)
    have g2 := v6 (x + 1) (by omega)
    split <;> assumption
  · simp (disch := omega) only [tR_s]
    intro h1 h2
    by_cases p1 : x < s <;> by_cases p2 : y < s
    · rw [if_pos p1, if_pos p2] at h1 h2
      exact v7 x y (by omega) (by omega) h1 h2
    · rw [if_pos p1, if_neg p2] at h1 h2
      have := v7 x (y + 1) (by omega) (by omega) h1 h2
      omega
    · rw [if_neg p1, if_pos p2] at h1 h2
      have := v7 (x + 1) y (by omega) (by omega) h1 h2
      omega
    · rw [if_neg p1, if_neg p2] at h1 h2
      have := v7 (x + 1) (y + 1) (by omega) (by omega) h1 h2
      omega
theorem tj_N {T : Tn} {a b : Nat} (hn : T 0 1 ≤ 21) (h : tj T a b = nN) : ∀ s, s < T 0 1 → ¬ (T 1 s = min a b ∧ T 2 s = max a b) := by
  intro s hs
  rcases ff_cases (pj T a b) (T 0 1) 0 with ⟨h1, h2⟩ | ⟨i, h1, h2, h3, h4, h5⟩
  · have := h2 s (Nat.zero_le _) (by omega)
    simpa [pj] using this
  · unfold tj at h
    rw [h4] at h
    exact (nN_ne (by omega) h).elim
theorem tj_S {T : Tn} {a b : Nat} (h : tj T a b ≠ nN) : ∃ s, s < T 0 1 ∧ tj T a b = nI s ∧ T 1 s = min a b ∧ T 2 s = max a b := by
  rcases ff_cases (pj T a b) (T 0 1) 0 with ⟨h1, h2⟩ | ⟨i, h1, h2, h3, h4, h5⟩
  · exact absurd h1 h
  · refine ⟨i, by omega, h4, ?_⟩
    simpa [pj] using h3
theorem vK_add {k a b l : Nat} {T : Tn} (hv : vK k T) (hk21 : k ≤ 21) (hk : T 0 1 < k) (ha : a < T 0 0) (hb : b < T 0 0) (hab : a ≠ b) (h1 : 1 ≤ l) (h2 : l ≤ 99) (hj : tj T a b = nN) : vK k (tA T a b l) := by
  have hn := tj_N (by have := hv.2.2.1; omega) hj
  obtain ⟨v0, v1, v2, v3, v4, v5, v6, v7⟩ := hv
  have q0 : tA T a b l 0 1 = T 0 1 + 1 := by
    unfold tA tP
    simp (disch := omega) only [qup_e, if_pos, if_neg, ite_true, ite_false, eq_self, and_self, true_and, and_true, tU]
  have qh : ∀ x, x ≠ 1 → tA T a b l 0 x = T 0 x := fun x hx => by
    unfold tA tP
    simp (disch := omega) only [qup_e, if_pos, if_neg, ite_true, ite_false, eq_self, and_self, true_and, and_true, tU]
  have q1 : ∀ x, tA T a b l 1 x = if x = T 0 1 then min a b else T 1 x := fun x => by
    unfold tA tP
    simp (disch := omega) only [qup_e, if_pos, if_neg, ite_true, ite_false, eq_self, and_self, true_and, and_true, tU]
  have q2 : ∀ x, tA T a b l 2 x = if x = T 0 1 then max a b else T 2 x := fun x => by
    unfold tA tP
    simp (disch := omega) only [qup_e, if_pos, if_neg, ite_true, ite_false, eq_self, and_self, true_and, and_true, tU]
  have q3 : ∀ x, tA T a b l 3 x = if x = T 0 1 then l else T 3 x := fun x => by
    unfold tA tP
    simp (disch := omega) only [qup_e, if_pos, if_neg, ite_true, ite_false, eq_self, and_self, true_and, and_true, tU]
  have q4 : ∀ x, tA T a b l 4 x = if x = T 0 1 then 0 else T 4 x := fun x => by
    unfold tA tP
    simp (disch := omega) only [qup_e, if_pos, if_neg, ite_true, ite_false, eq_self, and_self, true_and, and_true, tU]
  unfold vK
  rw [q0, qh 0 (by omega), qh 2 (by omega), qh 3 (by omega)]
  refine ⟨v0, v1, by omega, v3, v4, v5, fun x hx => ?_, fun x y hx hy => ?_⟩
  · rw [q1, q2, q3, q4]
    by_cases p : x = T 0 1
    · simp only [if_pos p]
      omega
    · simp only [if_neg p]
      exact v6 x (by omega)
  · rw [q1, q2, q1, q2]
    intro e1 e2
    by_cases p1 : x = T 0 1 <;> by_cases p2 : y = T 0 1
    · omega
    · rw [if_pos p1, if_neg p2] at e1 e2
      exact absurd ⟨e1.symm, e2.symm⟩ (hn y (by omega))
    · rw [if_neg p1, if_pos p2] at e1 e2
      exact absurd ⟨e1, e2⟩ (hn x (by omega))
    · rw [if_neg p1, if_neg p2] at e1 e2
      exact v7 x y (by omega) (by omega) e1 e2
theorem c_ta_loop {S0 : qSt} {o n k s : Nat} {T : Tn} (hT : isT S0 o T) (hv : vK k T) (hk : k ≤ 21) (hs : s < T 0 1) : ∀ j x f S, x + j = T 0 1 - 1 → s ≤ x → j < f → S o 0 = nI (T 0 0) → S o 1 = nI (T 0 1 - 1) → S o 2 = nI (T 0 2) → S o 3 = nI (T 0 3) → kp (pT o) S0 S → (∀ r, r < T 0 1 → ∀ i, 0 < i → i < 5 → S (o + i) r = nI (if r < s ∨ x ≤ r then T i r else T i (r + 1))) → ∃ S2, B5_takeAway_22 n o f (nI x) S = some (nI 0, S2) ∧ isT S2 o (tR T s) ∧ kp (pT o) S0 S2 := by
  have hn := hv.2.2.1
  intro j
  induction j with
  | zero =>
    intro x f S hx hsx hf g0 g1 g2 g3 hkp hr
    obtain ⟨g, rfl, hg⟩ := fuel_s hf
    refine ⟨S, ?_, ?_, hkp⟩
    · rw [B5_takeAway_22]
      simp (disch := omega) only [if_pos, if_neg, ite_true, ite_false, not_true_eq_false, Bool.false_eq_true, not_false_eq_true, eq_self, obs, ob1, ob2, obx, opx, li_0, li_1, li_2, li_3, li_4, li_5, li_6, li_7, li_8, li_9, li_10, li_14, li_16, li_20, li_21, li_24, li_25, li_32, li_44, li_48, li_57, li_60, li_64, li_81, li_84, li_99, li_100, li_101, li_108, li_111, li_115, li_116, li_120, li_140, li_255, li_500, li_999, li_1000, li_1092, li_1176, li_10000, li_100000, li_1000000, li_N, li_M, nI_add, pk_mul, pk_sub, pk_div, pk_rem, k_mod, nI_clamp, nI_leI, nI_ltI, nI_eq, qin_nI, nI_m1, nN_lt, nN_lt2, nN_le, nN_le2, nN_eq, nN_eq2, qin_nN, Option.some.injEq, Prod.mk.injEq, Sum.inl.injEq, g1]
    · unfold isT
      rw [tR_0, tR_h (by omega), tR_h (by omega), tR_h (by omega)]
      refine ⟨g0, g1, g2, g3, fun r hr2 => ?_⟩
      simp (disch := omega) only [tR_s]
      rw [hr r (by omega) 1 (by omega) (by omega), hr r (by omega) 2 (by omega) (by omega), hr r (by omega) 3 (by omega) (by omega), hr r (by omega) 4 (by omega) (by omega)]
      by_cases p : r < s
      · simp [p]
      · have : ¬ (r < s ∨ x ≤ r) := by omega
        simp only [if_neg p, if_neg this]
        simp
  | succ j ih =>
    intro x f S hx hsx hf g0 g1 g2 g3 hkp hr
    obtain ⟨g, rfl, hg⟩ := fuel_s hf
    obtain ⟨v1, v2, v3, v4, v5⟩ := hv.2.2.2.2.2.2.1 (x + 1) (by omega)
    obtain ⟨S1, e1, -, e2⟩ := c_cs (S := S) (o := o) (a := o) (i := x + 1) (j := x) (by omega) (by omega)
    have ka : ∀ i, 0 < i → i < 5 → S (o + i) (x + 1) = nI (T i (x + 1)) := fun i h1 h2 => by rw [hr (x + 1) (by omega) i h1 h2, if_pos (by omega)]
    have e3 : S1 = qup (qup (qup (qup S (o + 1) x (nI (T 1 (x + 1)))) (o + 2) x (nI (T 2 (x + 1)))) (o + 3) x (nI (T 3 (x + 1)))) (o + 4) x (nI (T 4 (x + 1))) := by
      rw [e2]
      simp (disch := omega) only [qup_o, ka, nI_and1]
    have r1 : B5_takeAway_22 n o (g + 1) (nI x) S = B5_takeAway_22 n o g (nI (x + 1)) S1 := by
      rw [B5_takeAway_22]
      simp (disch := omega) only [if_pos, if_neg, ite_true, ite_false, not_true_eq_false, Bool.false_eq_true, not_false_eq_true, eq_self, obs, ob1, ob2, obx, opx, li_0, li_1, li_2, li_3, li_4, li_5, li_6, li_7, li_8, li_9, li_10, li_14, li_16, li_20, li_21, li_24, li_25, li_32, li_44, li_48, li_57, li_60, li_64, li_81, li_84, li_99, li_100, li_101, li_108, li_111, li_115, li_116, li_120, li_140, li_255, li_500, li_999, li_1000, li_1092, li_1176, li_10000, li_100000, li_1000000, li_N, li_M, nI_add, pk_mul, pk_sub, pk_div, pk_rem, k_mod, nI_clamp, nI_leI, nI_ltI, nI_eq, qin_nI, nI_m1, nN_lt, nN_lt2, nN_le, nN_le2, nN_eq, nN_eq2, qin_nN, Option.some.injEq, Prod.mk.injEq, Sum.inl.injEq, g1, e1]
    rw [r1]
    refine ih (x + 1) g S1 (by omega) (by omega) (by omega) ?_ ?_ ?_ ?_ ?_ ?_
    · rw [e3]
      simp (disch := omega) only [qup_o, g0]
    · rw [e3]
      simp (disch := omega) only [qup_o, g1]
    · rw [e3]
      simp (disch := omega) only [qup_o, g2]
    · rw [e3]
      simp (disch := omega) only [qup_o, g3]
    · rw [e3]
      exact kp_up (kp_up (kp_up (kp_up hkp (by simp)) (by simp)) (by simp)) (by simp)
    · intro r hr2 i h1 h2
      rw [e3]
      by_cases q : r = x
      · subst q
        rw [if_neg (by omega)]
        rcases (by omega : i = 1 ∨ i = 2 ∨ i = 3 ∨ i = 4) with rfl | rfl | rfl | rfl <;> simp (disch := omega) only [qup_e, if_pos, if_neg, ite_true, ite_false, eq_self, and_self, true_and, and_true, tU]
      · have h3 := hr r hr2 i h1 h2
        have h4 : (r < s ∨ x ≤ r) ↔ (r < s ∨ x + 1 ≤ r) := by omega
        simp only [h4] at h3
        rw [← h3]
        simp (disch := omega) only [qup_e, if_pos, if_neg, ite_true, ite_false, eq_self, and_self, true_and, and_true, tU]
        try simp
theorem c_ta_y {S : qSt} {o n k s : Nat} {T : Tn} (hT : isT S o T) (hv : vK k T) (hk : k ≤ 21) (hs : s < T 0 1) (hn : 100 ≤ n) : ∃ S2, F5_takeAway n o (nI s) S = some (nI 0, S2) ∧ isT S2 o (tR T s) ∧ kp (pT o) S S2 := by
  have h0 := hv.2.2.1
  obtain ⟨t0, t1, t2, t3, ts⟩ := id hT
  unfold F5_takeAway
  rw [c_hasS_y t1 (by omega) hs]
  simp (disch := omega) only [if_pos, if_neg, ite_true, ite_false, not_true_eq_false, Bool.false_eq_true, not_false_eq_true, eq_self, obs, ob1, ob2, obx, opx, li_0, li_1, li_2, li_3, li_4, li_5, li_6, li_7, li_8, li_9, li_10, li_14, li_16, li_20, li_21, li_24, li_25, li_32, li_44, li_48, li_57, li_60, li_64, li_81, li_84, li_99, li_100, li_101, li_108, li_111, li_115, li_116, li_120, li_140, li_255, li_500, li_999, li_1000, li_1092, li_1176, li_10000, li_100000, li_1000000, li_N, li_M, nI_add, pk_mul, pk_sub, pk_div, pk_rem, k_mod, nI_clamp, nI_leI, nI_ltI, nI_eq, qin_nI, nI_m1, nN_lt, nN_lt2, nN_le, nN_le2, nN_eq, nN_eq2, qin_nN, Option.some.injEq, Prod.mk.injEq, Sum.inl.injEq, t1]
  refine c_ta_loop hT hv hk hs (T 0 1 - 1 - s) s n _ (by omega) (by omega) (by omega) ?_ ?_ ?_ ?_ ?_ ?_
  · simp (disch := omega) only [qup_e, if_pos, if_neg, ite_true, ite_false, eq_self, and_self, true_and, and_true, tU, t0]
  · simp (disch := omega) only [qup_e, if_pos, if_neg, ite_true, ite_false, eq_self, and_self, true_and, and_true, tU]
  · simp (disch := omega) only [qup_e, if_pos, if_neg, ite_true, ite_false, eq_self, and_self, true_and, and_true, tU, t2]
  · simp (disch := omega) only [qup_e, if_pos, if_neg, ite_true, ite_false, eq_self, and_self, true_and, and_true, tU, t3]
  · exact kp_up kp_rfl (by simp)
  · intro r hr i h1 h2
    obtain ⟨a1, a2, a3, a4⟩ := ts r hr
    rw [if_pos (by omega)]
    rcases (by omega : i = 1 ∨ i = 2 ∨ i = 3 ∨ i = 4) with rfl | rfl | rfl | rfl <;> simp (disch := omega) only [qup_e, if_pos, if_neg, ite_true, ite_false, eq_self, and_self, true_and, and_true, tU, a1, a2, a3, a4]
theorem c_ta_n {S : qSt} {o n k : Nat} {x : Int32} {T : Tn} (hT : isT S o T) (hv : vK k T) (hk : k ≤ 21) (hs : ∀ s, s < T 0 1 → x ≠ nI s) : F5_takeAway n o x S = some (nI 1, S) := by
  have h0 := hv.2.2.1
  unfold F5_takeAway
  rw [c_hasS_n hT.2.1 (by omega) hs]
  simp (disch := omega) only [if_pos, if_neg, ite_true, ite_false, not_true_eq_false, Bool.false_eq_true, not_false_eq_true, eq_self, obs, ob1, ob2, obx, opx, li_0, li_1, li_2, li_3, li_4, li_5, li_6, li_7, li_8, li_9, li_10, li_14, li_16, li_20, li_21, li_24, li_25, li_32, li_44, li_48, li_57, li_60, li_64, li_81, li_84, li_99, li_100, li_101, li_108, li_111, li_115, li_116, li_120, li_140, li_255, li_500, li_999, li_1000, li_1092, li_1176, li_10000, li_100000, li_1000000, li_N, li_M, nI_add, pk_mul, pk_sub, pk_div, pk_rem, k_mod, nI_clamp, nI_leI, nI_ltI, nI_eq, qin_nI, nI_m1, nN_lt, nN_lt2, nN_le, nN_le2, nN_eq, nN_eq2, qin_nN, Option.some.injEq, Prod.mk.injEq, Sum.inl.injEq]
theorem tA_eq {T : Tn} {a b l : Nat} : tA T a b l = tP (tU T 0 1 (T 0 1 + 1)) (T 0 1) a b l := rfl
theorem c_rep_b {S : qSt} {o n s a b l : Nat} {T : Tn} (hT : isT S o T) (h9 : T 0 1 ≤ 21) (hs : s < T 0 1) (ha : a < 9) (hb : b < 9) : ∃ S2, B5_replace_41 n o (nI a) (nI b) (nI l) (nI s) S = some S2 ∧ isT S2 o (tP T s a b l) ∧ kp (pT o) S S2 := by
  refine ⟨_, ?_, isT_tP hT (s := s) (a := a) (b := b) (l := l), kp_up (kp_up (kp_up (kp_up kp_rfl (by simp)) (by simp)) (by simp)) (by simp)⟩
  unfold B5_replace_41
  rw [c_hasS_y hT.2.1 (by omega) hs, show ((0 : Int32) &&& 1) = nI 0 from rfl]
  simp (disch := omega) only [if_pos, if_neg, ite_true, ite_false, not_true_eq_false, Bool.false_eq_true, not_false_eq_true, eq_self, obs, ob1, ob2, obx, opx, li_0, li_1, li_2, li_3, li_4, li_5, li_6, li_7, li_8, li_9, li_10, li_14, li_16, li_20, li_21, li_24, li_25, li_32, li_44, li_48, li_57, li_60, li_64, li_81, li_84, li_99, li_100, li_101, li_108, li_111, li_115, li_116, li_120, li_140, li_255, li_500, li_999, li_1000, li_1092, li_1176, li_10000, li_100000, li_1000000, li_N, li_M, nI_add, pk_mul, pk_sub, pk_div, pk_rem, k_mod, nI_clamp, nI_leI, nI_ltI, nI_eq, qin_nI, nI_m1, nN_lt, nN_lt2, nN_le, nN_le2, nN_eq, nN_eq2, qin_nN, Option.some.injEq, Prod.mk.injEq, Sum.inl.injEq, ite_min, ite_max]
theorem c_rep_y {S : qSt} {o n k s a b l : Nat} {T : Tn} (hT : isT S o T) (hv : vK k T) (hk : k ≤ 21) (ha : a < 9) (hb : b < 9) (hs : s < T 0 1) (hj : tj T a b = nI s) (hn : 100 ≤ n) : ∃ S2, F5_replace n o (nI a) (nI b) (nI l) S = some S2 ∧ isT S2 o (tP T s a b l) ∧ kp (pT o) S S2 := by
  have h0 := hv.2.2.1
  obtain ⟨S2, e, r⟩ := c_rep_b (n := n) (l := l) hT (by omega) hs ha hb
  refine ⟨S2, ?_, r⟩
  unfold F5_replace
  rw [c_sj hT hv hk ha hb hn, hj]
  simp (disch := omega) only [if_pos, if_neg, ite_true, ite_false, not_true_eq_false, Bool.false_eq_true, not_false_eq_true, eq_self, obs, ob1, ob2, obx, opx, li_0, li_1, li_2, li_3, li_4, li_5, li_6, li_7, li_8, li_9, li_10, li_14, li_16, li_20, li_21, li_24, li_25, li_32, li_44, li_48, li_57, li_60, li_64, li_81, li_84, li_99, li_100, li_101, li_108, li_111, li_115, li_116, li_120, li_140, li_255, li_500, li_999, li_1000, li_1092, li_1176, li_10000, li_100000, li_1000000, li_N, li_M, nI_add, pk_mul, pk_sub, pk_div, pk_rem, k_mod, nI_clamp, nI_leI, nI_ltI, nI_eq, qin_nI, nI_m1, nN_lt, nN_lt2, nN_le, nN_le2, nN_eq, nN_eq2, qin_nN, Option.some.injEq, Prod.mk.injEq, Sum.inl.injEq, e]
theorem isT_n1 {S : qSt} {o : Nat} {T : Tn} (hT : isT S o T) (a b l : Nat) : isT (qup (qup (qup (qup (qup S o 1 (nI (T 0 1 + 1))) (o + 1) (T 0 1) (nI (min a b))) (o + 2) (T 0 1) (nI (max a b))) (o + 3) (T 0 1) (nI l)) (o + 4) (T 0 1) (nI 0)) o (tA T a b l) := by
  obtain ⟨t0, t1, t2, t3, ts⟩ := id hT
  unfold isT tA
  refine ⟨?_, ?_, ?_, ?_, fun r hr => ?_⟩
  · simp (disch := omega) only [qup_e, if_pos, if_neg, ite_true, ite_false, eq_self, and_self, true_and, and_true, tU, t0, tP]
  · simp (disch := omega) only [qup_e, if_pos, if_neg, ite_true, ite_false, eq_self, and_self, true_and, and_true, tU, t1, tP]
  · simp (disch := omega) only [qup_e, if_pos, if_neg, ite_true, ite_false, eq_self, and_self, true_and, and_true, tU, t2, tP]
  · simp (disch := omega) only [qup_e, if_pos, if_neg, ite_true, ite_false, eq_self, and_self, true_and, and_true, tU, t3, tP]
  · have hr2 : r < T 0 1 + 1 := by
      simp only [tP, ite_true] at hr
      simp (disch := omega) only [qup_e, if_pos, if_neg, ite_true, ite_false, eq_self, and_self, true_and, and_true, tU] at hr
      exact hr
    by_cases q : r = T 0 1
    · subst q
      simp (disch := omega) only [qup_e, if_pos, if_neg, ite_true, ite_false, eq_self, and_self, true_and, and_true, tU, tP]
      try simp
    · obtain ⟨a1, a2, a3, a4⟩ := ts r (by omega)
      simp (disch := omega) only [qup_e, if_pos, if_neg, ite_true, ite_false, eq_self, and_self, true_and, and_true, tU, tP, a1, a2, a3, a4]
      try simp
theorem c_rep_n {S : qSt} {o n k a b l : Nat} {T : Tn} (hT : isT S o T) (hv : vK k T) (hk : k ≤ 20) (ha : a < 9) (hb : b < 9) (hj : tj T a b = nN) (hn : 100 ≤ n) : ∃ S2, F5_replace n o (nI a) (nI b) (nI l) S = some S2 ∧ isT S2 o (tA T a b l) ∧ kp (pT o) S S2 := by
  have h0 := hv.2.2.1
  refine ⟨_, ?_, isT_n1 hT a b l, kp_up (kp_up (kp_up (kp_up (kp_up kp_rfl (by simp)) (by simp)) (by simp)) (by simp)) (by simp)⟩
  unfold F5_replace
  rw [c_sj hT hv (by omega) ha hb hn, hj]
  simp (disch := omega) only [if_pos, if_neg, ite_true, ite_false, not_true_eq_false, Bool.false_eq_true, not_false_eq_true, eq_self, obs, ob1, ob2, obx, opx, li_0, li_1, li_2, li_3, li_4, li_5, li_6, li_7, li_8, li_9, li_10, li_14, li_16, li_20, li_21, li_24, li_25, li_32, li_44, li_48, li_57, li_60, li_64, li_81, li_84, li_99, li_100, li_101, li_108, li_111, li_115, li_116, li_120, li_140, li_255, li_500, li_999, li_1000, li_1092, li_1176, li_10000, li_100000, li_1000000, li_N, li_M, nI_add, pk_mul, pk_sub, pk_div, pk_rem, k_mod, nI_clamp, nI_leI, nI_ltI, nI_eq, qin_nI, nI_m1, nN_lt, nN_lt2, nN_le, nN_le2, nN_eq, nN_eq2, qin_nN, Option.some.injEq, Prod.mk.injEq, Sum.inl.injEq, hT.2.1]
  unfold B5_replace_41
  rw [c_hasS_y (c := T 0 1 + 1) (by simp (disch := omega) only [qup_e, if_pos, if_neg, ite_true, ite_false, eq_self, and_self, true_and, and_true, tU]) (by omega) (by omega), show ((0 : Int32) &&& 1) = nI 0 from rfl]
  simp (disch := omega) only [if_pos, if_neg, ite_true, ite_false, not_true_eq_false, Bool.false_eq_true, not_false_eq_true, eq_self, obs, ob1, ob2, obx, opx, li_0, li_1, li_2, li_3, li_4, li_5, li_6, li_7, li_8, li_9, li_10, li_14, li_16, li_20, li_21, li_24, li_25, li_32, li_44, li_48, li_57, li_60, li_64, li_81, li_84, li_99, li_100, li_101, li_108, li_111, li_115, li_116, li_120, li_140, li_255, li_500, li_999, li_1000, li_1092, li_1176, li_10000, li_100000, li_1000000, li_N, li_M, nI_add, pk_mul, pk_sub, pk_div, pk_rem, k_mod, nI_clamp, nI_leI, nI_ltI, nI_eq, qin_nI, nI_m1, nN_lt, nN_lt2, nN_le, nN_le2, nN_eq, nN_eq2, qin_nN, Option.some.injEq, Prod.mk.injEq, Sum.inl.injEq, ite_min, ite_max]
theorem c_join_1 {S : qSt} {o n k : Nat} {x y z : Int32} {T : Tn} (hT : isT S o T) (hv : vK k T) (h : (∀ j, j < T 0 0 → x ≠ nI j) ∨ (∀ j, j < T 0 0 → y ≠ nI j)) : F5_join n o x y z S = some (nI 1, S) := by
  unfold F5_join B5_join_19 B5_join_48
  rw [c_rp_1 hT hv h]
  simp (disch := omega) only [if_pos, if_neg, ite_true, ite_false, not_true_eq_false, Bool.false_eq_true, not_false_eq_true, eq_self, obs, ob1, ob2, obx, opx, li_0, li_1, li_2, li_3, li_4, li_5, li_6, li_7, li_8, li_9, li_10, li_14, li_16, li_20, li_21, li_24, li_25, li_32, li_44, li_48, li_57, li_60, li_64, li_81, li_84, li_99, li_100, li_101, li_108, li_111, li_115, li_116, li_120, li_140, li_255, li_500, li_999, li_1000, li_1092, li_1176, li_10000, li_100000, li_1000000, li_N, li_M, nI_add, pk_mul, pk_sub, pk_div, pk_rem, k_mod, nI_clamp, nI_leI, nI_ltI, nI_eq, qin_nI, nI_m1, nN_lt, nN_lt2, nN_le, nN_le2, nN_eq, nN_eq2, qin_nN, Option.some.injEq, Prod.mk.injEq, Sum.inl.injEq]
theorem c_join_2 {S : qSt} {o n k a : Nat} {z : Int32} {T : Tn} (hT : isT S o T) (hv : vK k T) (h : a < T 0 0) : F5_join n o (nI a) (nI a) z S = some (nI 2, S) := by
  unfold F5_join B5_join_19 B5_join_48
  rw [c_rp_2 hT hv h]
  simp (disch := omega) only [if_pos, if_neg, ite_true, ite_false, not_true_eq_false, Bool.false_eq_true, not_false_eq_true, eq_self, obs, ob1, ob2, obx, opx, li_0, li_1, li_2, li_3, li_4, li_5, li_6, li_7, li_8, li_9, li_10, li_14, li_16, li_20, li_21, li_24, li_25, li_32, li_44, li_48, li_57, li_60, li_64, li_81, li_84, li_99, li_100, li_101, li_108, li_111, li_115, li_116, li_120, li_140, li_255, li_500, li_999, li_1000, li_1092, li_1176, li_10000, li_100000, li_1000000, li_N, li_M, nI_add, pk_mul, pk_sub, pk_div, pk_rem, k_mod, nI_clamp, nI_leI, nI_ltI, nI_eq, qin_nI, nI_m1, nN_lt, nN_lt2, nN_le, nN_le2, nN_eq, nN_eq2, qin_nN, Option.some.injEq, Prod.mk.injEq, Sum.inl.injEq]
theorem c_join_l {S : qSt} {o n k a b : Nat} {z : Int32} {T : Tn} (hT : isT S o T) (hv : vK k T) (ha : a < T 0 0) (hb : b < T 0 0) (hab : a ≠ b) (h : ∀ l, 1 ≤ l → l ≤ 99 → z ≠ nI l) : F5_join n o (nI a) (nI b) z S = some (nI 2, S) := by
  unfold F5_join B5_join_19 B5_join_48
  rw [c_rp_0 hT hv ha hb hab, rol_n h]
  simp (disch := omega) only [if_pos, if_neg, ite_true, ite_false, not_true_eq_false, Bool.false_eq_true, not_false_eq_true, eq_self, obs, ob1, ob2, obx, opx, li_0, li_1, li_2, li_3, li_4, li_5, li_6, li_7, li_8, li_9, li_10, li_14, li_16, li_20, li_21, li_24, li_25, li_32, li_44, li_48, li_57, li_60, li_64, li_81, li_84, li_99, li_100, li_101, li_108, li_111, li_115, li_116, li_120, li_140, li_255, li_500, li_999, li_1000, li_1092, li_1176, li_10000, li_100000, li_1000000, li_N, li_M, nI_add, pk_mul, pk_sub, pk_div, pk_rem, k_mod, nI_clamp, nI_leI, nI_ltI, nI_eq, qin_nI, nI_m1, nN_lt, nN_lt2, nN_le, nN_le2, nN_eq, nN_eq2, qin_nN, Option.some.injEq, Prod.mk.injEq, Sum.inl.injEq]
theorem c_join_3 {S : qSt} {o n k a b l : Nat} {T : Tn} (hT : isT S o T) (hv : vK k T) (hk : k ≤ 21) (ha : a < T 0 0) (hb : b < T 0 0) (hab : a ≠ b) (h1 : 1 ≤ l) (h2 : l ≤ 99) (h : 20 ≤ T 0 1 ∨ tj T a b ≠ nN) (hn : 100 ≤ n) : F5_join n o (nI a) (nI b) (nI l) S = some (nI 3, S) := by
  have h0 := hv.2.2.1
  have h9 := hv.2.1
  unfold F5_join B5_join_19 B5_join_45 B5_join_48
  rw [c_rp_0 hT hv ha hb hab, rol_y h1 h2, c_sj hT hv hk (by omega) (by omega) hn]
  simp (disch := omega) only [if_pos, if_neg, ite_true, ite_false, not_true_eq_false, Bool.false_eq_true, not_false_eq_true, eq_self, obs, ob1, ob2, obx, opx, li_0, li_1, li_2, li_3, li_4, li_5, li_6, li_7, li_8, li_9, li_10, li_14, li_16, li_20, li_21, li_24, li_25, li_32, li_44, li_48, li_57, li_60, li_64, li_81, li_84, li_99, li_100, li_101, li_108, li_111, li_115, li_116, li_120, li_140, li_255, li_500, li_999, li_1000, li_1092, li_1176, li_10000, li_100000, li_1000000, li_N, li_M, nI_add, pk_mul, pk_sub, pk_div, pk_rem, k_mod, nI_clamp, nI_leI, nI_ltI, nI_eq, qin_nI, nI_m1, nN_lt, nN_lt2, nN_le, nN_le2, nN_eq, nN_eq2, qin_nN, Option.some.injEq, Prod.mk.injEq, Sum.inl.injEq, hT.2.1]
  by_cases q : 20 ≤ T 0 1
  · rw [if_pos q]
  · rw [if_neg q, if_neg]
    rcases h with h | h
    · exact absurd h q
    · exact h
theorem c_join_0 {S : qSt} {o n k a b l : Nat} {T : Tn} (hT : isT S o T) (hv : vK k T) (hk : k ≤ 20) (ha : a < T 0 0) (hb : b < T 0 0) (hab : a ≠ b) (h1 : 1 ≤ l) (h2 : l ≤ 99) (h : T 0 1 < 20) (hj : tj T a b = nN) (hn : 100 ≤ n) : ∃ S2, F5_join n o (nI a) (nI b) (nI l) S = some (nI 0, S2) ∧ isT S2 o (tA T a b l) ∧ kp (pT o) S S2 := by
  have h9 := hv.2.1
  obtain ⟨S2, e, r⟩ := c_rep_n (n := n) (l := l) hT hv hk (a := a) (b := b) (by omega) (by omega) hj hn
  refine ⟨S2, ?_, r⟩
  unfold F5_join B5_join_19 B5_join_45 B5_join_48
  rw [c_rp_0 hT hv ha hb hab, rol_y h1 h2, c_sj hT hv (by omega) (by omega) (by omega) hn, hj]
  simp (disch := omega) only [if_pos, if_neg, ite_true, ite_false, not_true_eq_false, Bool.false_eq_true, not_false_eq_true, eq_self, obs, ob1, ob2, obx, opx, li_0, li_1, li_2, li_3, li_4, li_5, li_6, li_7, li_8, li_9, li_10, li_14, li_16, li_20, li_21, li_24, li_25, li_32, li_44, li_48, li_57, li_60, li_64, li_81, li_84, li_99, li_100, li_101, li_108, li_111, li_115, li_116, li_120, li_140, li_255, li_500, li_999, li_1000, li_1092, li_1176, li_10000, li_100000, li_1000000, li_N, li_M, nI_add, pk_mul, pk_sub, pk_div, pk_rem, k_mod, nI_clamp, nI_leI, nI_ltI, nI_eq, qin_nI, nI_m1, nN_lt, nN_lt2, nN_le, nN_le2, nN_eq, nN_eq2, qin_nN, Option.some.injEq, Prod.mk.injEq, Sum.inl.injEq, hT.2.1, e]
theorem c_bw {S : qSt} {o c a b : Nat} : ∃ S2, F5_beginWith o (nI c) (nI a) (nI b) S = some S2 ∧ S2 o 0 = nI c ∧ S2 o 1 = nI 0 ∧ S2 o 2 = nI a ∧ S2 o 3 = nI b ∧ kp (pT o) S S2 := by
  unfold F5_beginWith
  refine ⟨_, rfl, ?_, ?_, ?_, ?_, kp_up (kp_up (kp_up (kp_up kp_rfl (by simp)) (by simp)) (by simp)) (by simp)⟩ <;> simp (disch := omega) only [qup_e, if_pos, if_neg, ite_true, ite_false, eq_self, and_self, true_and, and_true, tU]
  rfl
theorem c_tn {S : qSt} {o k : Nat} {T : Tn} (hT : isT S o T) (hv : vK k T) (hk : k ≤ 21) : F5_takesNoStreet o S = if 20 ≤ T 0 1 ∨ T 0 0 * (T 0 0 - 1) ≤ 2 * T 0 1 then nI 1 else nI 0 := by
  have h0 := hv.2.2.1
  have h9 := hv.2.1
  have h2 := hv.1
  have hm : T 0 0 * (T 0 0 - 1) ≤ 9 * 8 := Nat.mul_le_mul h9 (by omega)
  have hev : T 0 0 * (T 0 0 - 1) % 2 = 0 := by
    rcases (by omega : T 0 0 = 2 ∨ T 0 0 = 3 ∨ T 0 0 = 4 ∨ T 0 0 = 5 ∨ T 0 0 = 6 ∨ T 0 0 = 7 ∨ T 0 0 = 8 ∨ T 0 0 = 9) with q | q | q | q | q | q | q | q <;> rw [q]
  unfold F5_takesNoStreet B5_takesNoStreet_29
  rw [hT.2.1, hT.1, show nI (T 0 0) - 1 = nI (T 0 0 - 1) from pk_sub (b := 1) (by omega), pk_mul, show (2 : Int32) = nI 2 from rfl, pk_div (by omega) (by omega) (by omega)]
  simp (disch := omega) only [if_pos, if_neg, ite_true, ite_false, not_true_eq_false, Bool.false_eq_true, not_false_eq_true, eq_self, obs, ob1, ob2, obx, opx, li_0, li_1, li_2, li_3, li_4, li_5, li_6, li_7, li_8, li_9, li_10, li_14, li_16, li_20, li_21, li_24, li_25, li_32, li_44, li_48, li_57, li_60, li_64, li_81, li_84, li_99, li_100, li_101, li_108, li_111, li_115, li_116, li_120, li_140, li_255, li_500, li_999, li_1000, li_1092, li_1176, li_10000, li_100000, li_1000000, li_N, li_M, nI_add, pk_mul, pk_sub, pk_div, pk_rem, k_mod, nI_clamp, nI_leI, nI_ltI, nI_eq, qin_nI, nI_m1, nN_lt, nN_lt2, nN_le, nN_le2, nN_eq, nN_eq2, qin_nN, Option.some.injEq, Prod.mk.injEq, Sum.inl.injEq]
  by_cases q1 : 20 ≤ T 0 1
  · simp [q1]
  · by_cases q2 : T 0 0 * (T 0 0 - 1) ≤ 2 * T 0 1
    · have : ¬ T 0 1 < T 0 0 * (T 0 0 - 1) / 2 := by omega
      simp only [if_neg q1, if_neg this, q2, or_true, ite_true]
    · have : T 0 1 < T 0 0 * (T 0 0 - 1) / 2 := by omega
      simp only [if_neg q1, if_pos this, q1, q2, or_false, ite_false]
