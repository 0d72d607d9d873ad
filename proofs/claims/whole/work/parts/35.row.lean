/-! THE MODEL'S ROWS -/
theorem m_sa_loop {S : qSt} {m n w : Nat} {T : Tn} (hk : (kd m).2 = 84) (hT : isM S m 0 T) (hv : vT T) {c : Nat} (hc : c < 9) (hw : w ≤ 1) : ∀ j s f x, s + j = T 0 1 → j < f → x ≤ s → B8_streetsAt_5 n m f (nI c) (nI w) (nI x) (nI s) S = some (nI (x + cc (fun s => if w = 0 then aN T s c else oN T s c) j s)) := by
  have h1 : S m 1 = nI (T 0 1) := hT.2.1
  have hn := hv.2.2.1
  intro j
  induction j with
  | zero =>
    intro s f x hs hf hx
    obtain ⟨g, rfl, hg⟩ := fuel_s hf
    rw [B8_streetsAt_5]
    simp (disch := omega) only [if_pos, if_neg, ite_true, ite_false, not_true_eq_false, Bool.false_eq_true, not_false_eq_true, eq_self, obs, ob1, ob2, obx, opx, li_0, li_1, li_2, li_3, li_4, li_5, li_6, li_7, li_8, li_9, li_10, li_14, li_16, li_20, li_21, li_24, li_25, li_32, li_44, li_48, li_57, li_60, li_64, li_81, li_84, li_99, li_100, li_101, li_108, li_111, li_115, li_116, li_120, li_140, li_255, li_500, li_999, li_1000, li_1092, li_1176, li_10000, li_100000, li_1000000, li_N, li_M, nI_add, pk_mul, pk_sub, pk_div, pk_rem, k_mod, nI_clamp, nI_leI, nI_ltI, nI_eq, qin_nI, nI_m1, nN_lt, nN_lt2, nN_le, nN_le2, nN_eq, nN_eq2, qin_nN, Option.some.injEq, Prod.mk.injEq, Sum.inl.injEq, h1, hk, cc, Nat.add_zero]
  | succ j ih =>
    intro s f x hs hf hx
    obtain ⟨g, rfl, hg⟩ := fuel_s hf
    obtain ⟨t1, t3, t4⟩ := hT.2.2.2.2 s (by omega)
    obtain ⟨v1, v2, v3, v4, v5⟩ := hv.2.2.2.2.2.2.1 s (by omega)
    have v0 := hv.2.1
    simp only [Nat.zero_add] at t1 t3 t4
    have i1 := ih (s + 1) g x (by omega) (by omega) (by omega)
    have i2 := ih (s + 1) g (x + 1) (by omega) (by omega) (by omega)
    rw [B8_streetsAt_5, cc]
    rcases (by omega : w = 0 ∨ w = 1) with rfl | rfl <;> rcases t1 with ⟨t1, t2⟩ | ⟨t1, t2⟩ <;> by_cases c1 : T 1 s = c <;> by_cases c2 : T 2 s = c <;> by_cases c4 : T 4 s = 0 <;> first | omega | (simp (disch := omega) only [if_pos, if_neg, ite_true, ite_false, not_true_eq_false, Bool.false_eq_true, not_false_eq_true, eq_self, obs, ob1, ob2, obx, opx, li_0, li_1, li_2, li_3, li_4, li_5, li_6, li_7, li_8, li_9, li_10, li_14, li_16, li_20, li_21, li_24, li_25, li_32, li_44, li_48, li_57, li_60, li_64, li_81, li_84, li_99, li_100, li_101, li_108, li_111, li_115, li_116, li_120, li_140, li_255, li_500, li_999, li_1000, li_1092, li_1176, li_10000, li_100000, li_1000000, li_N, li_M, nI_add, pk_mul, pk_sub, pk_div, pk_rem, k_mod, nI_clamp, nI_leI, nI_ltI, nI_eq, qin_nI, nI_m1, nN_lt, nN_lt2, nN_le, nN_le2, nN_eq, nN_eq2, qin_nN, Option.some.injEq, Prod.mk.injEq, Sum.inl.injEq, h1, hk, t1, t2, t4, c1, c2, c4, B8_streetsAt_34, B8_streetsAt_39, B8_streetsAt_61, B8_streetsAt_65, B8_streetsAt_66, aN, oN]; simp [i1, i2, aN, oN, c1, c2, c4, Nat.add_assoc])
theorem m_sa {S : qSt} {m n w : Nat} {T : Tn} (hk : (kd m).2 = 84) (hT : isM S m 0 T) (hv : vT T) {c : Nat} (hc : c < 9) (hw : w ≤ 1) (hn : 100 ≤ n) : F8_streetsAt n m (nI c) (nI w) S = some (nI (cc (fun s => if w = 0 then aN T s c else oN T s c) (T 0 1) 0)) := by
  have h0 := hv.2.2.1
  have := m_sa_loop (n := n) hk hT hv hc hw (T 0 1) 0 n 0 (by omega) (by omega) (by omega)
  rw [Nat.zero_add] at this
  exact this
theorem isM_hd {S : qSt} {m x : Nat} {T : Tn} (hT : isM S m 0 T) (hx : x < 4) (hx1 : x ≠ 1) (v : Nat) : isM (qup S m x (nI v)) m 0 (tU T 0 x v) := by
  obtain ⟨t0, t1, t2, t3, ts⟩ := id hT
  simp only [Nat.zero_add] at t1 t2 t3
  unfold isM
  refine ⟨?_, ?_, ?_, ?_, fun s hs => ?_⟩
  · by_cases h : x = 0
    · subst h
      simp (disch := omega) only [qup_e, if_pos, if_neg, ite_true, ite_false, eq_self, and_self, true_and, and_true, tU]
    · simp (disch := omega) only [qup_e, if_pos, if_neg, ite_true, ite_false, eq_self, and_self, true_and, and_true, tU, t0]
  · simp (disch := omega) only [qup_e, if_pos, if_neg, ite_true, ite_false, eq_self, and_self, true_and, and_true, tU, t1, Nat.zero_add]
  · by_cases h : x = 2
    · subst h
      simp (disch := omega) only [qup_e, if_pos, if_neg, ite_true, ite_false, eq_self, and_self, true_and, and_true, tU]
    · simp (disch := omega) only [qup_e, if_pos, if_neg, ite_true, ite_false, eq_self, and_self, true_and, and_true, tU, t2, Nat.zero_add]
  · by_cases h : x = 3
    · subst h
      simp (disch := omega) only [qup_e, if_pos, if_neg, ite_true, ite_false, eq_self, and_self, true_and, and_true, tU]
    · simp (disch := omega) only [qup_e, if_pos, if_neg, ite_true, ite_false, eq_self, and_self, true_and, and_true, tU, t3, Nat.zero_add]
  · simp (disch := omega) only [tU, if_neg] at hs
    have q := ts s hs
    simp (disch := omega) only [qup_e, if_pos, if_neg, ite_true, ite_false, eq_self, and_self, true_and, and_true, tU]
    exact q
theorem isM_st {S : qSt} {m x s : Nat} {T : Tn} (hT : isM S m 0 T) (hx : x = 3 ∨ x = 4) (hn : T 0 1 ≤ 20) (hs : s < T 0 1) (v : Nat) : isM (qup S m ((if x = 3 then 44 else 64) + s) (nI v)) m 0 (tU T x s v) := by
  obtain ⟨t0, t1, t2, t3, ts⟩ := id hT
  simp only [Nat.zero_add] at t1 t2 t3
  unfold isM
  refine ⟨?_, ?_, ?_, ?_, fun r hr => ?_⟩
  · rcases hx with rfl | rfl <;> simp (disch := omega) only [qup_e, if_pos, if_neg, ite_true, ite_false, eq_self, and_self, true_and, and_true, tU, t0]
  · rcases hx with rfl | rfl <;> simp (disch := omega) only [qup_e, if_pos, if_neg, ite_true, ite_false, eq_self, and_self, true_and, and_true, tU, t1, Nat.zero_add]
  · rcases hx with rfl | rfl <;> simp (disch := omega) only [qup_e, if_pos, if_neg, ite_true, ite_false, eq_self, and_self, true_and, and_true, tU, t2, Nat.zero_add]
  · rcases hx with rfl | rfl <;> simp (disch := omega) only [qup_e, if_pos, if_neg, ite_true, ite_false, eq_self, and_self, true_and, and_true, tU, t3, Nat.zero_add]
  · simp (disch := omega) only [tU, if_neg] at hr
    have q := ts r hr
    simp only [Nat.zero_add] at q
    by_cases p : r = s
    · subst p
      rcases hx with rfl | rfl <;> simp (disch := omega) only [qup_e, if_pos, if_neg, ite_true, ite_false, eq_self, and_self, true_and, and_true, tU, Nat.zero_add, q.2.1, q.2.2] <;> exact q.1
    · rcases hx with rfl | rfl <;> simp (disch := omega) only [qup_e, if_pos, if_neg, ite_true, ite_false, eq_self, and_self, true_and, and_true, tU, Nat.zero_add] <;> simpa [p] using q
theorem isM_n1 {S : qSt} {m : Nat} {T : Tn} (hT : isM S m 0 T) (hn : T 0 1 < 20) (a b l : Nat) : isM (qup (qup (qup (qup (qup S m (4 + T 0 1) (nI a)) m (24 + T 0 1) (nI b)) m (44 + T 0 1) (nI l)) m (64 + T 0 1) (nI 0)) m 1 (nI (T 0 1 + 1))) m 0 (tA T a b l) := by
  obtain ⟨t0, t1, t2, t3, ts⟩ := id hT
  simp only [Nat.zero_add] at t1 t2 t3
  unfold isM tA
  refine ⟨?_, ?_, ?_, ?_, fun r hr => ?_⟩
  · simp (disch := omega) only [qup_e, if_pos, if_neg, ite_true, ite_false, eq_self, and_self, true_and, and_true, tU, t0, tP]
  · simp (disch := omega) only [qup_e, if_pos, if_neg, ite_true, ite_false, eq_self, and_self, true_and, and_true, tU, t1, tP, Nat.zero_add]
  · simp (disch := omega) only [qup_e, if_pos, if_neg, ite_true, ite_false, eq_self, and_self, true_and, and_true, tU, t2, tP, Nat.zero_add]
  · simp (disch := omega) only [qup_e, if_pos, if_neg, ite_true, ite_false, eq_self, and_self, true_and, and_true, tU, t3, tP, Nat.zero_add]
  · have hr2 : r < T 0 1 + 1 := by
      simp only [tP, ite_true] at hr
      simp (disch := omega) only [qup_e, if_pos, if_neg, ite_true, ite_false, eq_self, and_self, true_and, and_true, tU] at hr
      exact hr
    by_cases q : r = T 0 1
    · subst q
      simp (disch := omega) only [qup_e, if_pos, if_neg, ite_true, ite_false, eq_self, and_self, true_and, and_true, tU, tP, Nat.zero_add]
      by_cases hab : a ≤ b
      · rw [Nat.min_eq_left hab, Nat.max_eq_right hab]
        simp
      · rw [Nat.min_eq_right (by omega), Nat.max_eq_left (by omega)]
        simp
    · have q2 := ts r (by omega)
      simp only [Nat.zero_add] at q2
      simp (disch := omega) only [qup_e, if_pos, if_neg, ite_true, ite_false, eq_self, and_self, true_and, and_true, tU, tP, Nat.zero_add]
      simpa [q] using q2
theorem m_build {S : qSt} {m a b l : Nat} {T : Tn} (hk : (kd m).2 = 84) (hT : isM S m 0 T) (hn : T 0 1 < 20) : ∃ S2, F8_build m (nI a) (nI b) (nI l) S = some (nI (T 0 1), S2) ∧ isM S2 m 0 (tA T a b l) ∧ kp [m] S S2 := by
  obtain ⟨t0, t1, t2, t3, ts⟩ := id hT
  simp only [Nat.zero_add] at t1 t2 t3
  refine ⟨_, ?_, isM_n1 hT hn a b l, kp_up (kp_up (kp_up (kp_up (kp_up kp_rfl (by simp)) (by simp)) (by simp)) (by simp)) (by simp)⟩
  unfold F8_build
  simp (disch := omega) only [if_pos, if_neg, ite_true, ite_false, not_true_eq_false, Bool.false_eq_true, not_false_eq_true, eq_self, obs, ob1, ob2, obx, opx, li_0, li_1, li_2, li_3, li_4, li_5, li_6, li_7, li_8, li_9, li_10, li_14, li_16, li_20, li_21, li_24, li_25, li_32, li_44, li_48, li_57, li_60, li_64, li_81, li_84, li_99, li_100, li_101, li_108, li_111, li_115, li_116, li_120, li_140, li_255, li_500, li_999, li_1000, li_1092, li_1176, li_10000, li_100000, li_1000000, li_N, li_M, nI_add, pk_mul, pk_sub, pk_div, pk_rem, k_mod, nI_clamp, nI_leI, nI_ltI, nI_eq, qin_nI, nI_m1, nN_lt, nN_lt2, nN_le, nN_le2, nN_eq, nN_eq2, qin_nN, Option.some.injEq, Prod.mk.injEq, Sum.inl.injEq, hk, t1, qup_k]
theorem m_td_loop {S0 : qSt} {m n s : Nat} {T : Tn} (hk : (kd m).2 = 84) (hT : isM S0 m 0 T) (hv : vT T) (hs : s < T 0 1) : ∀ j x f S, x + j = T 0 1 - 1 → s ≤ x → j < f → S m 0 = nI (T 0 0) → S m 1 = nI (T 0 1 - 1) → S m 2 = nI (T 0 2) → S m 3 = nI (T 0 3) → kp [m] S0 S → (∀ r, r < T 0 1 → ∀ i, i = 4 ∨ i = 24 ∨ i = 44 ∨ i = 64 → S m (i + r) = if r < s ∨ x ≤ r then S0 m (i + r) else S0 m (i + r + 1)) → ∃ S2, B8_tearDown_9 n m f (nI x) S = some S2 ∧ isM S2 m 0 (tR T s) ∧ kp [m] S0 S2 := by
  have hn := hv.2.2.1
  have ts := hT.2.2.2.2
  simp only [Nat.zero_add] at ts
  intro j
  induction j with
  | zero =>
    intro x f S hx hsx hf g0 g1 g2 g3 hkp hr
    obtain ⟨g, rfl, hg⟩ := fuel_s hf
    refine ⟨S, ?_, ?_, hkp⟩
    · rw [B8_tearDown_9]
      simp (disch := omega) only [if_pos, if_neg, ite_true, ite_false, not_true_eq_false, Bool.false_eq_true, not_false_eq_true, eq_self, obs, ob1, ob2, obx, opx, li_0, li_1, li_2, li_3, li_4, li_5, li_6, li_7, li_8, li_9, li_10, li_14, li_16, li_20, li_21, li_24, li_25, li_32, li_44, li_48, li_57, li_60, li_64, li_81, li_84, li_99, li_100, li_101, li_108, li_111, li_115, li_116, li_120, li_140, li_255, li_500, li_999, li_1000, li_1092, li_1176, li_10000, li_100000, li_1000000, li_N, li_M, nI_add, pk_mul, pk_sub, pk_div, pk_rem, k_mod, nI_clamp, nI_leI, nI_ltI, nI_eq, qin_nI, nI_m1, nN_lt, nN_lt2, nN_le, nN_le2, nN_eq, nN_eq2, qin_nN, Option.some.injEq, Prod.mk.injEq, Sum.inl.injEq, hk, g1]
    · unfold isM
      rw [tR_0, tR_h (by omega), tR_h (by omega), tR_h (by omega)]
      simp only [Nat.zero_add]
      refine ⟨g0, g1, g2, g3, fun r hr2 => ?_⟩
      simp (disch := omega) only [tR_s]
      rw [hr r (by omega) 4 (by omega), hr r (by omega) 24 (by omega), hr r (by omega) 44 (by omega), hr r (by omega) 64 (by omega)]
      by_cases p : r < s
      · simpa [p] using ts r (by omega)
      · have : ¬ (r < s ∨ x ≤ r) := by omega
        simp only [if_neg p, if_neg this]
        exact ts (r + 1) (by omega)
  | succ j ih =>
    intro x f S hx hsx hf g0 g1 g2 g3 hkp hr
    obtain ⟨g, rfl, hg⟩ := fuel_s hf
    have ka : ∀ i, i = 4 ∨ i = 24 ∨ i = 44 ∨ i = 64 → S m (i + x + 1) = S0 m (i + x + 1) := fun i h1 => by
      have := hr (x + 1) (by omega) i h1
      rw [if_pos (by omega)] at this
      exact this
    have r1 : B8_tearDown_9 n m (g + 1) (nI x) S = B8_tearDown_9 n m g (nI (x + 1)) (qup (qup (qup (qup S m (4 + x) (S0 m (4 + x + 1))) m (24 + x) (S0 m (24 + x + 1))) m (44 + x) (S0 m (44 + x + 1))) m (64 + x) (S0 m (64 + x + 1))) := by
      rw [B8_tearDown_9]
      simp (disch := omega) only [if_pos, if_neg, ite_true, ite_false, not_true_eq_false, Bool.false_eq_true, not_false_eq_true, eq_self, obs, ob1, ob2, obx, opx, li_0, li_1, li_2, li_3, li_4, li_5, li_6, li_7, li_8, li_9, li_10, li_14, li_16, li_20, li_21, li_24, li_25, li_32, li_44, li_48, li_57, li_60, li_64, li_81, li_84, li_99, li_100, li_101, li_108, li_111, li_115, li_116, li_120, li_140, li_255, li_500, li_999, li_1000, li_1092, li_1176, li_10000, li_100000, li_1000000, li_N, li_M, nI_add, pk_mul, pk_sub, pk_div, pk_rem, k_mod, nI_clamp, nI_leI, nI_ltI, nI_eq, qin_nI, nI_m1, nN_lt, nN_lt2, nN_le, nN_le2, nN_eq, nN_eq2, qin_nN, Option.some.injEq, Prod.mk.injEq, Sum.inl.injEq, hk, g1, qup_k, ka]
    rw [r1]
    refine ih (x + 1) g _ (by omega) (by omega) (by omega) ?_ ?_ ?_ ?_ ?_ ?_
    · simp (disch := omega) only [qup_k, g0]
    · simp (disch := omega) only [qup_k, g1]
    · simp (disch := omega) only [qup_k, g2]
    · simp (disch := omega) only [qup_k, g3]
    · exact kp_up (kp_up (kp_up (kp_up hkp (by simp)) (by simp)) (by simp)) (by simp)
    · intro r hr2 i h1
      by_cases q : r = x
      · subst q
        rw [if_neg (by omega)]
        rcases h1 with rfl | rfl | rfl | rfl <;> simp (disch := omega) only [qup_e, if_pos, if_neg, ite_true, ite_false, eq_self, and_self, true_and, and_true, tU]
      · have h3 := hr r hr2 i h1
        have h4 : (r < s ∨ x ≤ r) ↔ (r < s ∨ x + 1 ≤ r) := by omega
        simp only [h4] at h3
        rw [← h3]
        rcases h1 with rfl | rfl | rfl | rfl <;> simp (disch := omega) only [qup_k]
theorem m_td {S : qSt} {m n s : Nat} {T : Tn} (hk : (kd m).2 = 84) (hT : isM S m 0 T) (hv : vT T) (hs : s < T 0 1) (hn : 100 ≤ n) : ∃ S2, F8_tearDown n m (nI s) S = some S2 ∧ isM S2 m 0 (tR T s) ∧ kp [m] S S2 := by
  have h0 := hv.2.2.1
  obtain ⟨t0, t1, t2, t3, ts⟩ := id hT
  simp only [Nat.zero_add] at t1 t2 t3
  unfold F8_tearDown
  simp (disch := omega) only [if_pos, if_neg, ite_true, ite_false, not_true_eq_false, Bool.false_eq_true, not_false_eq_true, eq_self, obs, ob1, ob2, obx, opx, li_0, li_1, li_2, li_3, li_4, li_5, li_6, li_7, li_8, li_9, li_10, li_14, li_16, li_20, li_21, li_24, li_25, li_32, li_44, li_48, li_57, li_60, li_64, li_81, li_84, li_99, li_100, li_101, li_108, li_111, li_115, li_116, li_120, li_140, li_255, li_500, li_999, li_1000, li_1092, li_1176, li_10000, li_100000, li_1000000, li_N, li_M, nI_add, pk_mul, pk_sub, pk_div, pk_rem, k_mod, nI_clamp, nI_leI, nI_ltI, nI_eq, qin_nI, nI_m1, nN_lt, nN_lt2, nN_le, nN_le2, nN_eq, nN_eq2, qin_nN, Option.some.injEq, Prod.mk.injEq, Sum.inl.injEq, hk, t1]
  refine m_td_loop hk hT hv hs (T 0 1 - 1 - s) s n _ (by omega) (by omega) (by omega) ?_ ?_ ?_ ?_ ?_ ?_
  · simp (disch := omega) only [qup_e, if_pos, if_neg, ite_true, ite_false, eq_self, and_self, true_and, and_true, tU, t0]
  · simp (disch := omega) only [qup_e, if_pos, if_neg, ite_true, ite_false, eq_self, and_self, true_and, and_true, tU]
  · simp (disch := omega) only [qup_e, if_pos, if_neg, ite_true, ite_false, eq_self, and_self, true_and, and_true, tU, t2]
  · simp (disch := omega) only [qup_e, if_pos, if_neg, ite_true, ite_false, eq_self, and_self, true_and, and_true, tU, t3]
  · exact kp_up kp_rfl (by simp)
  · intro r hr i h1
    rw [if_pos (by omega)]
    simp (disch := omega) only [qup_k]
theorem m_ct_loop {S0 : qSt} {n a c x y : Nat} (hac : a ≠ c) (h1 : x + 84 ≤ (kd a).2) (h2 : y + 84 ≤ (kd c).2) (h3 : (kd a).2 < 10000) (h4 : (kd c).2 < 10000) : ∀ j i f S, i + j = 84 → j < f → kp [c] S0 S → (∀ r, r < i → S c (y + r) = S0 a (x + r)) → (∀ r, r < y ∨ y + 84 ≤ r → S c r = S0 c r) → ∃ S2, B8_copyTown_3 n a c f (nI x) (nI y) (nI i) S = some S2 ∧ kp [c] S0 S2 ∧ (∀ r, r < 84 → S2 c (y + r) = S0 a (x + r)) ∧ (∀ r, r < y ∨ y + 84 ≤ r → S2 c r = S0 c r) := by
  intro j
  induction j with
  | zero =>
    intro i f S hi hf hkp hr ho
    obtain ⟨g, rfl, hg⟩ := fuel_s hf
    refine ⟨S, ?_, hkp, fun r h => hr r (by omega), ho⟩
    rw [B8_copyTown_3]
    simp (disch := omega) only [if_pos, if_neg, ite_true, ite_false, not_true_eq_false, Bool.false_eq_true, not_false_eq_true, eq_self, obs, ob1, ob2, obx, opx, li_0, li_1, li_2, li_3, li_4, li_5, li_6, li_7, li_8, li_9, li_10, li_14, li_16, li_20, li_21, li_24, li_25, li_32, li_44, li_48, li_57, li_60, li_64, li_81, li_84, li_99, li_100, li_101, li_108, li_111, li_115, li_116, li_120, li_140, li_255, li_500, li_999, li_1000, li_1092, li_1176, li_10000, li_100000, li_1000000, li_N, li_M, nI_add, pk_mul, pk_sub, pk_div, pk_rem, k_mod, nI_clamp, nI_leI, nI_ltI, nI_eq, qin_nI, nI_m1, nN_lt, nN_lt2, nN_le, nN_le2, nN_eq, nN_eq2, qin_nN, Option.some.injEq, Prod.mk.injEq, Sum.inl.injEq]
  | succ j ih =>
    intro i f S hi hf hkp hr ho
    obtain ⟨g, rfl, hg⟩ := fuel_s hf
    have e : S a = S0 a := hkp a (by simpa using hac)
    have r1 : B8_copyTown_3 n a c (g + 1) (nI x) (nI y) (nI i) S = B8_copyTown_3 n a c g (nI x) (nI y) (nI (i + 1)) (qup S c (y + i) (S0 a (x + i))) := by
      rw [B8_copyTown_3]
      simp (disch := omega) only [if_pos, if_neg, ite_true, ite_false, not_true_eq_false, Bool.false_eq_true, not_false_eq_true, eq_self, obs, ob1, ob2, obx, opx, li_0, li_1, li_2, li_3, li_4, li_5, li_6, li_7, li_8, li_9, li_10, li_14, li_16, li_20, li_21, li_24, li_25, li_32, li_44, li_48, li_57, li_60, li_64, li_81, li_84, li_99, li_100, li_101, li_108, li_111, li_115, li_116, li_120, li_140, li_255, li_500, li_999, li_1000, li_1092, li_1176, li_10000, li_100000, li_1000000, li_N, li_M, nI_add, pk_mul, pk_sub, pk_div, pk_rem, k_mod, nI_clamp, nI_leI, nI_ltI, nI_eq, qin_nI, nI_m1, nN_lt, nN_lt2, nN_le, nN_le2, nN_eq, nN_eq2, qin_nN, Option.some.injEq, Prod.mk.injEq, Sum.inl.injEq, e]
    rw [r1]
    refine ih (i + 1) g _ (by omega) (by omega) (kp_up hkp (by simp)) ?_ ?_
    · intro r h
      by_cases q : r = i
      · subst q
        rw [qup_s]
      · rw [qup_k _ _ _ (by omega)]
        exact hr r (by omega)
    · intro r h
      rw [qup_k _ _ _ (by omega)]
      exact ho r h
theorem isM_cp {S S2 : qSt} {a c x y : Nat} {T : Tn} (hT : isM S a x T) (hn : T 0 1 ≤ 20) (h : ∀ r, r < 84 → S2 c (y + r) = S a (x + r)) : isM S2 c y T := by
  obtain ⟨t0, t1, t2, t3, ts⟩ := id hT
  have h0 := h 0 (by omega)
  simp only [Nat.add_zero] at h0
  refine ⟨h0.trans t0, (h 1 (by omega)).trans t1, (h 2 (by omega)).trans t2, (h 3 (by omega)).trans t3, fun s hs => ?_⟩
  rw [h (4 + s) (by omega), h (24 + s) (by omega), h (44 + s) (by omega), h (64 + s) (by omega)]
  exact ts s hs
theorem m_ct {S : qSt} {n a c x y : Nat} {T : Tn} (hac : a ≠ c) (h1 : x + 84 ≤ (kd a).2) (h2 : y + 84 ≤ (kd c).2) (h3 : (kd a).2 < 10000) (h4 : (kd c).2 < 10000) (hT : isM S a x T) (hn : T 0 1 ≤ 20) (hf : 100 ≤ n) : ∃ S2, F8_copyTown n a (nI x) c (nI y) S = some S2 ∧ isM S2 c y T ∧ kp [c] S S2 ∧ (∀ r, r < y ∨ y + 84 ≤ r → S2 c r = S c r) := by
  obtain ⟨S2, e, k1, k2, k3⟩ := m_ct_loop (S0 := S) (n := n) hac h1 h2 h3 h4 84 0 n S (by omega) (by omega) kp_rfl (fun r h => by omega) (fun r _ => rfl)
  exact ⟨S2, e, isM_cp hT hn k2, k1, k3⟩
theorem m_cl_loop {S0 : qSt} {n m c : Nat} (hk : (kd m).2 = 84) : ∀ j i f S, i + j = 84 → j < f → kp [m] S0 S → (∀ r, r < i → S m r = nI 0) → ∃ S2, B8_clear_2 n m f (nI c) (nI i) S = some S2 ∧ kp [m] S0 S2 ∧ S2 m 0 = nI c ∧ ∀ r, 0 < r → r < 84 → S2 m r = nI 0 := by
  intro j
  induction j with
  | zero =>
    intro i f S hi hf hkp hr
    obtain ⟨g, rfl, hg⟩ := fuel_s hf
    refine ⟨qup S m 0 (nI c), ?_, kp_up hkp (by simp), qup_s .., fun r h1 h2 => ?_⟩
    · rw [B8_clear_2]
      simp (disch := omega) only [if_pos, if_neg, ite_true, ite_false, not_true_eq_false, Bool.false_eq_true, not_false_eq_true, eq_self, obs, ob1, ob2, obx, opx, li_0, li_1, li_2, li_3, li_4, li_5, li_6, li_7, li_8, li_9, li_10, li_14, li_16, li_20, li_21, li_24, li_25, li_32, li_44, li_48, li_57, li_60, li_64, li_81, li_84, li_99, li_100, li_101, li_108, li_111, li_115, li_116, li_120, li_140, li_255, li_500, li_999, li_1000, li_1092, li_1176, li_10000, li_100000, li_1000000, li_N, li_M, nI_add, pk_mul, pk_sub, pk_div, pk_rem, k_mod, nI_clamp, nI_leI, nI_ltI, nI_eq, qin_nI, nI_m1, nN_lt, nN_lt2, nN_le, nN_le2, nN_eq, nN_eq2, qin_nN, Option.some.injEq, Prod.mk.injEq, Sum.inl.injEq, B8_clear_18, hk]
    · rw [qup_k _ _ _ (by omega)]
      exact hr r (by omega)
  | succ j ih =>
    intro i f S hi hf hkp hr
    obtain ⟨g, rfl, hg⟩ := fuel_s hf
    have r1 : B8_clear_2 n m (g + 1) (nI c) (nI i) S = B8_clear_2 n m g (nI c) (nI (i + 1)) (qup S m i (nI 0)) := by
      rw [B8_clear_2]
      simp (disch := omega) only [if_pos, if_neg, ite_true, ite_false, not_true_eq_false, Bool.false_eq_true, not_false_eq_true, eq_self, obs, ob1, ob2, obx, opx, li_0, li_1, li_2, li_3, li_4, li_5, li_6, li_7, li_8, li_9, li_10, li_14, li_16, li_20, li_21, li_24, li_25, li_32, li_44, li_48, li_57, li_60, li_64, li_81, li_84, li_99, li_100, li_101, li_108, li_111, li_115, li_116, li_120, li_140, li_255, li_500, li_999, li_1000, li_1092, li_1176, li_10000, li_100000, li_1000000, li_N, li_M, nI_add, pk_mul, pk_sub, pk_div, pk_rem, k_mod, nI_clamp, nI_leI, nI_ltI, nI_eq, qin_nI, nI_m1, nN_lt, nN_lt2, nN_le, nN_le2, nN_eq, nN_eq2, qin_nN, Option.some.injEq, Prod.mk.injEq, Sum.inl.injEq, hk]
    rw [r1]
    refine ih (i + 1) g _ (by omega) (by omega) (kp_up hkp (by simp)) ?_
    intro r h
    by_cases q : r = i
    · subst q
      rw [qup_s]
    · rw [qup_k _ _ _ (by omega)]
      exact hr r (by omega)
theorem m_cl {S : qSt} {n m c : Nat} (hk : (kd m).2 = 84) (hn : 100 ≤ n) : ∃ S2, F8_clear n m (nI c) S = some S2 ∧ kp [m] S S2 ∧ S2 m 0 = nI c ∧ ∀ r, 0 < r → r < 84 → S2 m r = nI 0 := m_cl_loop hk 84 0 n S (by omega) (by omega) kp_rfl (fun r h => by omega)
theorem m_wnb_1 {S : qSt} {n m : Nat} {x y z : Int32} {T : Tn} (hk : (kd m).2 = 84) (hT : isM S m 0 T) (hv : vT T) (h : (∀ j, j < T 0 0 → x ≠ nI j) ∨ (∀ j, j < T 0 0 → y ≠ nI j)) : F8_whyNotBuild n m x y z S = some (nI 1) := by
  have h9 := hv.2.1
  have h2 := hv.1
  unfold F8_whyNotBuild
  by_cases h1 : ∀ j, j < T 0 0 → x ≠ nI j
  · rw [m_isC_n hk hT.1 (by omega) (by omega) h1]
    simp (disch := omega) only [if_pos, if_neg, ite_true, ite_false, not_true_eq_false, Bool.false_eq_true, not_false_eq_true, eq_self, obs, ob1, ob2, obx, opx, li_0, li_1, li_2, li_3, li_4, li_5, li_6, li_7, li_8, li_9, li_10, li_14, li_16, li_20, li_21, li_24, li_25, li_32, li_44, li_48, li_57, li_60, li_64, li_81, li_84, li_99, li_100, li_101, li_108, li_111, li_115, li_116, li_120, li_140, li_255, li_500, li_999, li_1000, li_1092, li_1176, li_10000, li_100000, li_1000000, li_N, li_M, nI_add, pk_mul, pk_sub, pk_div, pk_rem, k_mod, nI_clamp, nI_leI, nI_ltI, nI_eq, qin_nI, nI_m1, nN_lt, nN_lt2, nN_le, nN_le2, nN_eq, nN_eq2, qin_nN, Option.some.injEq, Prod.mk.injEq, Sum.inl.injEq]
  · rcases h with h | h
    · exact absurd h h1
    · rcases ix x (T 0 0) (by omega) with ⟨j, hj, rfl⟩ | ⟨q, -⟩
      · rw [m_isC_y hk hT.1 (by omega) hj, m_isC_n hk hT.1 (by omega) (by omega) h]
        simp (disch := omega) only [if_pos, if_neg, ite_true, ite_false, not_true_eq_false, Bool.false_eq_true, not_false_eq_true, eq_self, obs, ob1, ob2, obx, opx, li_0, li_1, li_2, li_3, li_4, li_5, li_6, li_7, li_8, li_9, li_10, li_14, li_16, li_20, li_21, li_24, li_25, li_32, li_44, li_48, li_57, li_60, li_64, li_81, li_84, li_99, li_100, li_101, li_108, li_111, li_115, li_116, li_120, li_140, li_255, li_500, li_999, li_1000, li_1092, li_1176, li_10000, li_100000, li_1000000, li_N, li_M, nI_add, pk_mul, pk_sub, pk_div, pk_rem, k_mod, nI_clamp, nI_leI, nI_ltI, nI_eq, qin_nI, nI_m1, nN_lt, nN_lt2, nN_le, nN_le2, nN_eq, nN_eq2, qin_nN, Option.some.injEq, Prod.mk.injEq, Sum.inl.injEq]
      · exact absurd q h1
theorem m_wnb_2 {S : qSt} {n m a : Nat} {z : Int32} {T : Tn} (hk : (kd m).2 = 84) (hT : isM S m 0 T) (hv : vT T) (ha : a < T 0 0) : F8_whyNotBuild n m (nI a) (nI a) z S = some (nI 2) := by
  have h9 := hv.2.1
  unfold F8_whyNotBuild
  rw [m_isC_y hk hT.1 (by omega) ha]
  simp (disch := omega) only [if_pos, if_neg, ite_true, ite_false, not_true_eq_false, Bool.false_eq_true, not_false_eq_true, eq_self, obs, ob1, ob2, obx, opx, li_0, li_1, li_2, li_3, li_4, li_5, li_6, li_7, li_8, li_9, li_10, li_14, li_16, li_20, li_21, li_24, li_25, li_32, li_44, li_48, li_57, li_60, li_64, li_81, li_84, li_99, li_100, li_101, li_108, li_111, li_115, li_116, li_120, li_140, li_255, li_500, li_999, li_1000, li_1092, li_1176, li_10000, li_100000, li_1000000, li_N, li_M, nI_add, pk_mul, pk_sub, pk_div, pk_rem, k_mod, nI_clamp, nI_leI, nI_ltI, nI_eq, qin_nI, nI_m1, nN_lt, nN_lt2, nN_le, nN_le2, nN_eq, nN_eq2, qin_nN, Option.some.injEq, Prod.mk.injEq, Sum.inl.injEq]
theorem m_wnb_l {S : qSt} {n m a b : Nat} {z : Int32} {T : Tn} (hk : (kd m).2 = 84) (hT : isM S m 0 T) (hv : vT T) (ha : a < T 0 0) (hb : b < T 0 0) (hab : a ≠ b) (h : ∀ l, 1 ≤ l → l ≤ 99 → z ≠ nI l) : F8_whyNotBuild n m (nI a) (nI b) z S = some (nI 2) := by
  have h9 := hv.2.1
  unfold F8_whyNotBuild
  rw [m_isC_y hk hT.1 (by omega) ha, m_isC_y hk hT.1 (by omega) hb]
  rw [show F8_in z.toInt64 1 99 S = nI 0 from in_n (lo := 1) (hi := 99) S h (by omega) (by omega)]
  simp (disch := omega) only [if_pos, if_neg, ite_true, ite_false, not_true_eq_false, Bool.false_eq_true, not_false_eq_true, eq_self, obs, ob1, ob2, obx, opx, li_0, li_1, li_2, li_3, li_4, li_5, li_6, li_7, li_8, li_9, li_10, li_14, li_16, li_20, li_21, li_24, li_25, li_32, li_44, li_48, li_57, li_60, li_64, li_81, li_84, li_99, li_100, li_101, li_108, li_111, li_115, li_116, li_120, li_140, li_255, li_500, li_999, li_1000, li_1092, li_1176, li_10000, li_100000, li_1000000, li_N, li_M, nI_add, pk_mul, pk_sub, pk_div, pk_rem, k_mod, nI_clamp, nI_leI, nI_ltI, nI_eq, qin_nI, nI_m1, nN_lt, nN_lt2, nN_le, nN_le2, nN_eq, nN_eq2, qin_nN, Option.some.injEq, Prod.mk.injEq, Sum.inl.injEq]
theorem m_wnb_3 {S : qSt} {n m a b l : Nat} {T : Tn} (hk : (kd m).2 = 84) (hT : isM S m 0 T) (hv : vT T) (ha : a < T 0 0) (hb : b < T 0 0) (hab : a ≠ b) (h1 : 1 ≤ l) (h2 : l ≤ 99) (hn : 100 ≤ n) : F8_whyNotBuild n m (nI a) (nI b) (nI l) S = some (if 20 ≤ T 0 1 ∨ tj T a b ≠ nN then nI 3 else nI 0) := by
  have h0 := hv.2.2.1
  have h9 := hv.2.1
  have t1 : S m 1 = nI (T 0 1) := hT.2.1
  unfold F8_whyNotBuild B8_whyNotBuild_57
  rw [m_isC_y hk hT.1 (by omega) ha, m_isC_y hk hT.1 (by omega) hb, m_j hk hT hv (by omega) (by omega) hn]
  rw [show F8_in (nI l).toInt64 1 99 S = nI 1 from in_y (lo := 1) (hi := 99) S h1 h2 (by omega)]
  simp (disch := omega) only [if_pos, if_neg, ite_true, ite_false, not_true_eq_false, Bool.false_eq_true, not_false_eq_true, eq_self, obs, ob1, ob2, obx, opx, li_0, li_1, li_2, li_3, li_4, li_5, li_6, li_7, li_8, li_9, li_10, li_14, li_16, li_20, li_21, li_24, li_25, li_32, li_44, li_48, li_57, li_60, li_64, li_81, li_84, li_99, li_100, li_101, li_108, li_111, li_115, li_116, li_120, li_140, li_255, li_500, li_999, li_1000, li_1092, li_1176, li_10000, li_100000, li_1000000, li_N, li_M, nI_add, pk_mul, pk_sub, pk_div, pk_rem, k_mod, nI_clamp, nI_leI, nI_ltI, nI_eq, qin_nI, nI_m1, nN_lt, nN_lt2, nN_le, nN_le2, nN_eq, nN_eq2, qin_nN, Option.some.injEq, Prod.mk.injEq, Sum.inl.injEq, hk, t1]
  by_cases q : tj T a b = nN
  · by_cases q2 : T 0 1 = 20
    · simp [q, q2]
    · have : ¬ 20 ≤ T 0 1 := by omega
      simp [q, q2, this]
  · simp [q]
