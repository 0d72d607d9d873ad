/-! ERROR POSITION OF A PLAN; COMMANDS ARE DONE -/
theorem k_errP {S : qSt} {n : Nat} (h : Rel S) (hn : 100000000 ≤ n) : okc (ob2 (F7_errorPosition n 1 S) fun r3 S4 => ob2 (F8_errorPosition n 1 S4) fun r6 S7 => if r3 = r6 then (some S7) else (none)) := by
  obtain ⟨L, c, T, hc, H, F, K, hR, rm, ok⟩ := h
  obtain ⟨S1, e1, ka, -⟩ := c_plan (n := n) ⟨ok.1, ok.2.1⟩ hR.1 (by omega)
  have rm1 := RM_kC rm (kC_kp ka (by simp))
  obtain ⟨S2, e2, a2, g2⟩ := m_plan (n := n) ⟨ok.1, ok.2.1⟩ rm1.1 rm1.2.2.2.2 (by omega)
  obtain ⟨f1, f2⟩ := RM_rd rm1 g2.1 g2.2 (by simp) (by decide) (by decide) (by simp)
  refine ⟨S2, ?_, L, c, T, hc, H, F, K, RC_kM (RC_kp hR ka (by simp)) f2, f1, ok⟩
  unfold F7_errorPosition F8_errorPosition B8_errorPosition_15
  rw [if_neg (show ¬ (1 : Int32) = 0 by decide), e1, ob2_s, ob2_s, if_neg (show ¬ (1 : Int32) = 0 by decide), e2, ob2_s]
  by_cases z : isL (rdPl L c).2 = 0
  · rw [rP_n z, z, if_pos (show nI 0 = (0 : Int32) from rfl), ob2_s, a2, if_pos rfl]
  · have z1 : isL (rdPl L c).2 = 1 := by
      cases y : (rdPl L c).2 with
      | none =>
        rw [y] at z
        exact absurd rfl z
      | some l => rfl
    rw [rP_s z, z1, if_neg (show ¬ nI 1 = (0 : Int32) by decide), ob2_s, if_pos (show nN = (-999 : Int32) from rfl)]
def doC (T : Tn) (q : Cm) : Option Tn :=
  if q.1 < 2 then (if q.2.1 < T 0 1 then some (tU T 4 q.2.1 q.1) else none)
  else if q.1 = 2 then (if q.2.1 < T 0 1 ∧ q.2.2 ≠ 0 then some (tU T 3 q.2.1 q.2.2) else none)
  else if q.1 = 3 then (if q.2.1 < T 0 0 ∧ q.2.2 < T 0 0 ∧ q.2.1 ≠ q.2.2 then some (tU (tU T 0 2 q.2.1) 0 3 q.2.2) else none)
  else some (tU (tU T 0 2 (T 0 3)) 0 3 (T 0 2))
section QDO
variable {T : Tn}
theorem doC_v (hv : vT T) {q : Cm} (hq : okC q) : ∀ T2, doC T q = some T2 → vT T2 := by
  obtain ⟨h1, h2, h3⟩ := hq
  intro T2 h
  unfold doC at h
  by_cases q1 : q.1 < 2
  · rw [if_pos q1] at h
    by_cases z : q.2.1 < T 0 1
    · rw [if_pos z] at h
      cases h
      exact vK_shut hv (by omega)
    · rw [if_neg z] at h
      cases h
  rw [if_neg q1] at h
  by_cases q2 : q.1 = 2
  · rw [if_pos q2] at h
    by_cases z : q.2.1 < T 0 1 ∧ q.2.2 ≠ 0
    · rw [if_pos z] at h
      cases h
      exact vK_str hv (by omega) (by omega)
    · rw [if_neg z] at h
      cases h
  rw [if_neg q2] at h
  by_cases q3 : q.1 = 3
  · rw [if_pos q3] at h
    by_cases z : q.2.1 < T 0 0 ∧ q.2.2 < T 0 0 ∧ q.2.1 ≠ q.2.2
    · rw [if_pos z] at h
      cases h
      exact vK_dir hv z.1 z.2.1 z.2.2
    · rw [if_neg z] at h
      cases h
  rw [if_neg q3] at h
  cases h
  exact vK_dir hv hv.2.2.2.2.1 hv.2.2.2.1 (fun v => hv.2.2.2.2.2.1 v.symm)
theorem c_do {S : qSt} {k : Nat} {q : Cm} (hT : isT S 13 T) (hv : vT T) (ht : tab S k q) (hq : okC q) (hk : k < 140) : ∃ x S2, F7_planCommandOnTrial (nI k) S = some (nI x, S2) ∧ kp (pT 13) S S2 ∧ x < 4 ∧ (∀ T2, doC T q = some T2 → x = 0 ∧ isT S2 13 T2) ∧ (doC T q = none → x ≠ 0 ∧ isT S2 13 T) := by
  obtain ⟨w, a, b⟩ := q
  obtain ⟨h1, h2, h3⟩ := hq
  obtain ⟨t5, t6, t7⟩ := ht
  dsimp only at *
  have h9 := hv.2.1
  have h20 := hv.2.2.1
  have no : ∀ {X : Prop}, (none : Option Tn) = some T → X := fun h => by cases h
  unfold doC F7_planCommandOnTrial
  rw [if_pos ((qin_nI (by omega)).mpr hk), nI_clamp (by omega), t5]
  dsimp only
  rcases (by omega : w = 0 ∨ w = 1 ∨ w = 2 ∨ w = 3 ∨ w = 4) with rfl | rfl | rfl | rfl | rfl
  · have t5' : lets.getD (5 * 0) 0 = 111 := rfl
    rw [t5', t6 (by omega), if_pos (show 0 < 2 by omega)]
    by_cases z : a < T 0 1
    · obtain ⟨S2, e2, t2, k2⟩ := c_shut_y (s := a) (b := 0) hT hv (by omega) z (by omega)
      refine ⟨0, S2, ?_, k2, by omega, fun T2 h => ?_, fun h => ?_⟩
      · simp (disch := omega) only [if_pos, if_neg, ite_true, ite_false, not_true_eq_false, Bool.false_eq_true, not_false_eq_true, eq_self, obs, ob1, ob2, obx, opx, li_0, li_1, li_2, li_3, li_4, li_5, li_6, li_7, li_8, li_9, li_10, li_14, li_16, li_20, li_21, li_24, li_25, li_32, li_44, li_48, li_57, li_60, li_64, li_81, li_84, li_99, li_100, li_101, li_108, li_111, li_115, li_116, li_120, li_140, li_255, li_500, li_999, li_1000, li_1092, li_1176, li_10000, li_100000, li_1000000, li_N, li_M, nI_add, pk_mul, pk_sub, pk_div, pk_rem, k_mod, nI_clamp, nI_leI, nI_ltI, nI_eq, qin_nI, nI_m1, nN_lt, nN_lt2, nN_le, nN_le2, nN_eq, nN_eq2, qin_nN, Option.some.injEq, Prod.mk.injEq, Sum.inl.injEq, e2]
      · rw [if_pos z] at h
        cases h
        exact ⟨rfl, t2⟩
      · rw [if_pos z] at h
        cases h
    · have e2 := c_shut_n (b := nI 0) hT hv (by omega : 20 ≤ 21) (nn_ne z (by omega) (by omega))
      refine ⟨1, S, ?_, kp_rfl, by omega, fun T2 h => ?_, fun h => ⟨by omega, hT⟩⟩
      · simp (disch := omega) only [if_pos, if_neg, ite_true, ite_false, not_true_eq_false, Bool.false_eq_true, not_false_eq_true, eq_self, obs, ob1, ob2, obx, opx, li_0, li_1, li_2, li_3, li_4, li_5, li_6, li_7, li_8, li_9, li_10, li_14, li_16, li_20, li_21, li_24, li_25, li_32, li_44, li_48, li_57, li_60, li_64, li_81, li_84, li_99, li_100, li_101, li_108, li_111, li_115, li_116, li_120, li_140, li_255, li_500, li_999, li_1000, li_1092, li_1176, li_10000, li_100000, li_1000000, li_N, li_M, nI_add, pk_mul, pk_sub, pk_div, pk_rem, k_mod, nI_clamp, nI_leI, nI_ltI, nI_eq, qin_nI, nI_m1, nN_lt, nN_lt2, nN_le, nN_le2, nN_eq, nN_eq2, qin_nN, Option.some.injEq, Prod.mk.injEq, Sum.inl.injEq, e2]
      · rw [if_neg z] at h
        cases h
  · have t5' : lets.getD (5 * 1) 0 = 99 := rfl
    rw [t5', t6 (by omega), if_pos (show 1 < 2 by omega)]
    by_cases z : a < T 0 1
    · obtain ⟨S2, e2, t2, k2⟩ := c_shut_y (s := a) (b := 1) hT hv (by omega) z (by omega)
      refine ⟨0, S2, ?_, k2, by omega, fun T2 h => ?_, fun h => ?_⟩
      · simp (disch := omega) only [if_pos, if_neg, ite_true, ite_false, not_true_eq_false, Bool.false_eq_true, not_false_eq_true, eq_self, obs, ob1, ob2, obx, opx, li_0, li_1, li_2, li_3, li_4, li_5, li_6, li_7, li_8, li_9, li_10, li_14, li_16, li_20, li_21, li_24, li_25, li_32, li_44, li_48, li_57, li_60, li_64, li_81, li_84, li_99, li_100, li_101, li_108, li_111, li_115, li_116, li_120, li_140, li_255, li_500, li_999, li_1000, li_1092, li_1176, li_10000, li_100000, li_1000000, li_N, li_M, nI_add, pk_mul, pk_sub, pk_div, pk_rem, k_mod, nI_clamp, nI_leI, nI_ltI, nI_eq, qin_nI, nI_m1, nN_lt, nN_lt2, nN_le, nN_le2, nN_eq, nN_eq2, qin_nN, Option.some.injEq, Prod.mk.injEq, Sum.inl.injEq, e2]
      · rw [if_pos z] at h
        cases h
        exact ⟨rfl, t2⟩
      · rw [if_pos z] at h
        cases h
    · have e2 := c_shut_n (b := nI 1) hT hv (by omega : 20 ≤ 21) (nn_ne z (by omega) (by omega))
      refine ⟨1, S, ?_, kp_rfl, by omega, fun T2 h => ?_, fun h => ⟨by omega, hT⟩⟩
      · simp (disch := omega) only [if_pos, if_neg, ite_true, ite_false, not_true_eq_false, Bool.false_eq_true, not_false_eq_true, eq_self, obs, ob1, ob2, obx, opx, li_0, li_1, li_2, li_3, li_4, li_5, li_6, li_7, li_8, li_9, li_10, li_14, li_16, li_20, li_21, li_24, li_25, li_32, li_44, li_48, li_57, li_60, li_64, li_81, li_84, li_99, li_100, li_101, li_108, li_111, li_115, li_116, li_120, li_140, li_255, li_500, li_999, li_1000, li_1092, li_1176, li_10000, li_100000, li_1000000, li_N, li_M, nI_add, pk_mul, pk_sub, pk_div, pk_rem, k_mod, nI_clamp, nI_leI, nI_ltI, nI_eq, qin_nI, nI_m1, nN_lt, nN_lt2, nN_le, nN_le2, nN_eq, nN_eq2, qin_nN, Option.some.injEq, Prod.mk.injEq, Sum.inl.injEq, e2]
      · rw [if_neg z] at h
        cases h
  · have t5' : lets.getD (5 * 2) 0 = 108 := rfl
    rw [t5', t6 (by omega), t7 (by omega) (by omega), if_neg (show ¬ 2 < 2 by omega), if_pos (rfl : 2 = 2)]
    by_cases z : a < T 0 1 ∧ b ≠ 0
    · obtain ⟨S2, e2, t2, k2⟩ := c_str_y (l := b) hT hv (by omega) z.1 (by omega) (by omega)
      refine ⟨0, S2, ?_, k2, by omega, fun T2 h => ?_, fun h => ?_⟩
      · simp (disch := omega) only [if_pos, if_neg, ite_true, ite_false, not_true_eq_false, Bool.false_eq_true, not_false_eq_true, eq_self, obs, ob1, ob2, obx, opx, li_0, li_1, li_2, li_3, li_4, li_5, li_6, li_7, li_8, li_9, li_10, li_14, li_16, li_20, li_21, li_24, li_25, li_32, li_44, li_48, li_57, li_60, li_64, li_81, li_84, li_99, li_100, li_101, li_108, li_111, li_115, li_116, li_120, li_140, li_255, li_500, li_999, li_1000, li_1092, li_1176, li_10000, li_100000, li_1000000, li_N, li_M, nI_add, pk_mul, pk_sub, pk_div, pk_rem, k_mod, nI_clamp, nI_leI, nI_ltI, nI_eq, qin_nI, nI_m1, nN_lt, nN_lt2, nN_le, nN_le2, nN_eq, nN_eq2, qin_nN, Option.some.injEq, Prod.mk.injEq, Sum.inl.injEq, e2]
      · rw [if_pos z] at h
        cases h
        exact ⟨rfl, t2⟩
      · rw [if_pos z] at h
        cases h
    · by_cases y : a < T 0 1
      · have hb : b = 0 := Classical.byContradiction fun v => z ⟨y, v⟩
        subst hb
        have e2 := c_str_l hT hv (by omega : 20 ≤ 21) y n0_ne
        refine ⟨2, S, ?_, kp_rfl, by omega, fun T2 h => ?_, fun h => ⟨by omega, hT⟩⟩
        · simp (disch := omega) only [if_pos, if_neg, ite_true, ite_false, not_true_eq_false, Bool.false_eq_true, not_false_eq_true, eq_self, obs, ob1, ob2, obx, opx, li_0, li_1, li_2, li_3, li_4, li_5, li_6, li_7, li_8, li_9, li_10, li_14, li_16, li_20, li_21, li_24, li_25, li_32, li_44, li_48, li_57, li_60, li_64, li_81, li_84, li_99, li_100, li_101, li_108, li_111, li_115, li_116, li_120, li_140, li_255, li_500, li_999, li_1000, li_1092, li_1176, li_10000, li_100000, li_1000000, li_N, li_M, nI_add, pk_mul, pk_sub, pk_div, pk_rem, k_mod, nI_clamp, nI_leI, nI_ltI, nI_eq, qin_nI, nI_m1, nN_lt, nN_lt2, nN_le, nN_le2, nN_eq, nN_eq2, qin_nN, Option.some.injEq, Prod.mk.injEq, Sum.inl.injEq, e2]
        · rw [if_neg z] at h
          cases h
      · have e2 := c_str_n (y := nI b) hT hv (by omega : 20 ≤ 21) (nn_ne y (by omega) (by omega))
        refine ⟨1, S, ?_, kp_rfl, by omega, fun T2 h => ?_, fun h => ⟨by omega, hT⟩⟩
        · simp (disch := omega) only [if_pos, if_neg, ite_true, ite_false, not_true_eq_false, Bool.false_eq_true, not_false_eq_true, eq_self, obs, ob1, ob2, obx, opx, li_0, li_1, li_2, li_3, li_4, li_5, li_6, li_7, li_8, li_9, li_10, li_14, li_16, li_20, li_21, li_24, li_25, li_32, li_44, li_48, li_57, li_60, li_64, li_81, li_84, li_99, li_100, li_101, li_108, li_111, li_115, li_116, li_120, li_140, li_255, li_500, li_999, li_1000, li_1092, li_1176, li_10000, li_100000, li_1000000, li_N, li_M, nI_add, pk_mul, pk_sub, pk_div, pk_rem, k_mod, nI_clamp, nI_leI, nI_ltI, nI_eq, qin_nI, nI_m1, nN_lt, nN_lt2, nN_le, nN_le2, nN_eq, nN_eq2, qin_nN, Option.some.injEq, Prod.mk.injEq, Sum.inl.injEq, e2]
        · rw [if_neg z] at h
          cases h
  · have t5' : lets.getD (5 * 3) 0 = 101 := rfl
    rw [t5', t6 (by omega), t7 (by omega) (by omega), if_neg (show ¬ 3 < 2 by omega), if_neg (show ¬ 3 = 2 by omega), if_pos (rfl : 3 = 3)]
    by_cases z : a < T 0 0 ∧ b < T 0 0 ∧ a ≠ b
    · obtain ⟨S2, e2, t2, k2⟩ := c_dir_0 hT hv z.1 z.2.1 z.2.2
      refine ⟨0, S2, ?_, k2, by omega, fun T2 h => ?_, fun h => ?_⟩
      · simp (disch := omega) only [if_pos, if_neg, ite_true, ite_false, not_true_eq_false, Bool.false_eq_true, not_false_eq_true, eq_self, obs, ob1, ob2, obx, opx, li_0, li_1, li_2, li_3, li_4, li_5, li_6, li_7, li_8, li_9, li_10, li_14, li_16, li_20, li_21, li_24, li_25, li_32, li_44, li_48, li_57, li_60, li_64, li_81, li_84, li_99, li_100, li_101, li_108, li_111, li_115, li_116, li_120, li_140, li_255, li_500, li_999, li_1000, li_1092, li_1176, li_10000, li_100000, li_1000000, li_N, li_M, nI_add, pk_mul, pk_sub, pk_div, pk_rem, k_mod, nI_clamp, nI_leI, nI_ltI, nI_eq, qin_nI, nI_m1, nN_lt, nN_lt2, nN_le, nN_le2, nN_eq, nN_eq2, qin_nN, Option.some.injEq, Prod.mk.injEq, Sum.inl.injEq, e2]
      · rw [if_pos z] at h
        cases h
        exact ⟨rfl, t2⟩
      · rw [if_pos z] at h
        cases h
    · by_cases y : a < T 0 0
      · by_cases y2 : b < T 0 0
        · have hb : a = b := Classical.byContradiction fun v => z ⟨y, y2, v⟩
          subst hb
          have e2 := c_dir_2 hT hv y
          refine ⟨2, S, ?_, kp_rfl, by omega, fun T2 h => ?_, fun h => ⟨by omega, hT⟩⟩
          · simp (disch := omega) only [if_pos, if_neg, ite_true, ite_false, not_true_eq_false, Bool.false_eq_true, not_false_eq_true, eq_self, obs, ob1, ob2, obx, opx, li_0, li_1, li_2, li_3, li_4, li_5, li_6, li_7, li_8, li_9, li_10, li_14, li_16, li_20, li_21, li_24, li_25, li_32, li_44, li_48, li_57, li_60, li_64, li_81, li_84, li_99, li_100, li_101, li_108, li_111, li_115, li_116, li_120, li_140, li_255, li_500, li_999, li_1000, li_1092, li_1176, li_10000, li_100000, li_1000000, li_N, li_M, nI_add, pk_mul, pk_sub, pk_div, pk_rem, k_mod, nI_clamp, nI_leI, nI_ltI, nI_eq, qin_nI, nI_m1, nN_lt, nN_lt2, nN_le, nN_le2, nN_eq, nN_eq2, qin_nN, Option.some.injEq, Prod.mk.injEq, Sum.inl.injEq, e2]
          · rw [if_neg z] at h
            cases h
        · have e2 := c_dir_1 (x := nI a) hT hv (Or.inr (nn_ne y2 (by omega) (by omega)))
          refine ⟨1, S, ?_, kp_rfl, by omega, fun T2 h => ?_, fun h => ⟨by omega, hT⟩⟩
          · simp (disch := omega) only [if_pos, if_neg, ite_true, ite_false, not_true_eq_false, Bool.false_eq_true, not_false_eq_true, eq_self, obs, ob1, ob2, obx, opx, li_0, li_1, li_2, li_3, li_4, li_5, li_6, li_7, li_8, li_9, li_10, li_14, li_16, li_20, li_21, li_24, li_25, li_32, li_44, li_48, li_57, li_60, li_64, li_81, li_84, li_99, li_100, li_101, li_108, li_111, li_115, li_116, li_120, li_140, li_255, li_500, li_999, li_1000, li_1092, li_1176, li_10000, li_100000, li_1000000, li_N, li_M, nI_add, pk_mul, pk_sub, pk_div, pk_rem, k_mod, nI_clamp, nI_leI, nI_ltI, nI_eq, qin_nI, nI_m1, nN_lt, nN_lt2, nN_le, nN_le2, nN_eq, nN_eq2, qin_nN, Option.some.injEq, Prod.mk.injEq, Sum.inl.injEq, e2]
          · rw [if_neg z] at h
            cases h
      · have e2 := c_dir_1 (y := nI b) hT hv (Or.inl (nn_ne y (by omega) (by omega)))
        refine ⟨1, S, ?_, kp_rfl, by omega, fun T2 h => ?_, fun h => ⟨by omega, hT⟩⟩
        · simp (disch := omega) only [if_pos, if_neg, ite_true, ite_false, not_true_eq_false, Bool.false_eq_true, not_false_eq_true, eq_self, obs, ob1, ob2, obx, opx, li_0, li_1, li_2, li_3, li_4, li_5, li_6, li_7, li_8, li_9, li_10, li_14, li_16, li_20, li_21, li_24, li_25, li_32, li_44, li_48, li_57, li_60, li_64, li_81, li_84, li_99, li_100, li_101, li_108, li_111, li_115, li_116, li_120, li_140, li_255, li_500, li_999, li_1000, li_1092, li_1176, li_10000, li_100000, li_1000000, li_N, li_M, nI_add, pk_mul, pk_sub, pk_div, pk_rem, k_mod, nI_clamp, nI_leI, nI_ltI, nI_eq, qin_nI, nI_m1, nN_lt, nN_lt2, nN_le, nN_le2, nN_eq, nN_eq2, qin_nN, Option.some.injEq, Prod.mk.injEq, Sum.inl.injEq, e2]
        · rw [if_neg z] at h
          cases h
  · have t5' : lets.getD (5 * 4) 0 = 116 := rfl
    rw [t5', if_neg (show ¬ 4 < 2 by omega), if_neg (show ¬ 4 = 2 by omega), if_neg (show ¬ 4 = 3 by omega)]
    obtain ⟨S2, e2, t2, k2⟩ := c_dir_0 hT hv hv.2.2.2.2.1 hv.2.2.2.1 (fun v => hv.2.2.2.2.2.1 v.symm)
    refine ⟨0, S2, ?_, k2, by omega, fun T2 h => ?_, fun h => ?_⟩
    · have z2 := hT.2.2.1
      have z3 := hT.2.2.2.1
      simp (disch := omega) only [if_pos, if_neg, ite_true, ite_false, not_true_eq_false, Bool.false_eq_true, not_false_eq_true, eq_self, obs, ob1, ob2, obx, opx, li_0, li_1, li_2, li_3, li_4, li_5, li_6, li_7, li_8, li_9, li_10, li_14, li_16, li_20, li_21, li_24, li_25, li_32, li_44, li_48, li_57, li_60, li_64, li_81, li_84, li_99, li_100, li_101, li_108, li_111, li_115, li_116, li_120, li_140, li_255, li_500, li_999, li_1000, li_1092, li_1176, li_10000, li_100000, li_1000000, li_N, li_M, nI_add, pk_mul, pk_sub, pk_div, pk_rem, k_mod, nI_clamp, nI_leI, nI_ltI, nI_eq, qin_nI, nI_m1, nN_lt, nN_lt2, nN_le, nN_le2, nN_eq, nN_eq2, qin_nN, Option.some.injEq, Prod.mk.injEq, Sum.inl.injEq, z2, z3, e2]
    · cases h
      exact ⟨rfl, t2⟩
    · cases h
theorem m_do {S : qSt} {q : Cm} (hT : isM S 114 0 T) (hv : vT T) (ht : tbm S q) (hq : okC q) : ∃ x S2, F8_command S = some (nI x, S2) ∧ kp [114] S S2 ∧ x ≤ 1 ∧ (∀ T2, doC T q = some T2 → x = 1 ∧ isM S2 114 0 T2) ∧ (doC T q = none → x = 0 ∧ isM S2 114 0 T) := by
  obtain ⟨w, a, b⟩ := q
  obtain ⟨h1, h2, h3⟩ := hq
  obtain ⟨t5, t6, t7⟩ := ht
  dsimp only at *
  have h9 := hv.2.1
  have h92 := hv.1
  have h20 := hv.2.2.1
  unfold doC F8_command
  rw [obs1, t5]
  dsimp only
  rcases (by omega : w = 0 ∨ w = 1 ∨ w = 2 ∨ w = 3 ∨ w = 4) with rfl | rfl | rfl | rfl | rfl
  · rw [t6 (by omega), if_pos (show 0 < 2 by omega)]
    by_cases z : a < T 0 1
    · have t2 := isM_st (x := 4) hT (Or.inr rfl) (by omega) z 0
      rw [if_neg (by omega)] at t2
      refine ⟨1, qup S 114 (64 + a) (nI 0), ?_, kp_up kp_rfl (by simp), by omega, fun T2 h => ?_, fun h => ?_⟩
      rotate_left
      · rw [if_pos z] at h
        cases h
        exact ⟨rfl, t2⟩
      · rw [if_pos z] at h
        cases h
      · simp (disch := omega) only [if_pos, if_neg, ite_true, ite_false, not_true_eq_false, Bool.false_eq_true, not_false_eq_true, eq_self, obs, ob1, ob2, obx, opx, li_0, li_1, li_2, li_3, li_4, li_5, li_6, li_7, li_8, li_9, li_10, li_14, li_16, li_20, li_21, li_24, li_25, li_32, li_44, li_48, li_57, li_60, li_64, li_81, li_84, li_99, li_100, li_101, li_108, li_111, li_115, li_116, li_120, li_140, li_255, li_500, li_999, li_1000, li_1092, li_1176, li_10000, li_100000, li_1000000, li_N, li_M, nI_add, pk_mul, pk_sub, pk_div, pk_rem, k_mod, nI_clamp, nI_leI, nI_ltI, nI_eq, qin_nI, nI_m1, nN_lt, nN_lt2, nN_le, nN_le2, nN_eq, nN_eq2, qin_nN, Option.some.injEq, Prod.mk.injEq, Sum.inl.injEq, m_isS_y kr_114 hT.2.1 (by omega) z]
    · have e2 := m_isS_n kr_114 hT.2.1 (by omega) (nn_ne z (show a < 2 ^ 31 by omega) (by omega))
      refine ⟨0, S, ?_, kp_rfl, by omega, fun T2 h => ?_, fun h => ⟨rfl, hT⟩⟩
      · simp (disch := omega) only [if_pos, if_neg, ite_true, ite_false, not_true_eq_false, Bool.false_eq_true, not_false_eq_true, eq_self, obs, ob1, ob2, obx, opx, li_0, li_1, li_2, li_3, li_4, li_5, li_6, li_7, li_8, li_9, li_10, li_14, li_16, li_20, li_21, li_24, li_25, li_32, li_44, li_48, li_57, li_60, li_64, li_81, li_84, li_99, li_100, li_101, li_108, li_111, li_115, li_116, li_120, li_140, li_255, li_500, li_999, li_1000, li_1092, li_1176, li_10000, li_100000, li_1000000, li_N, li_M, nI_add, pk_mul, pk_sub, pk_div, pk_rem, k_mod, nI_clamp, nI_leI, nI_ltI, nI_eq, qin_nI, nI_m1, nN_lt, nN_lt2, nN_le, nN_le2, nN_eq, nN_eq2, qin_nN, Option.some.injEq, Prod.mk.injEq, Sum.inl.injEq, e2]
      · rw [if_neg z] at h
        cases h
  · rw [t6 (by omega), if_pos (show 1 < 2 by omega)]
    by_cases z : a < T 0 1
    · have t2 := isM_st (x := 4) hT (Or.inr rfl) (by omega) z 1
      rw [if_neg (by omega)] at t2
      refine ⟨1, qup S 114 (64 + a) (nI 1), ?_, kp_up kp_rfl (by simp), by omega, fun T2 h => ?_, fun h => ?_⟩
      rotate_left
      · rw [if_pos z] at h
        cases h
        exact ⟨rfl, t2⟩
      · rw [if_pos z] at h
        cases h
      · simp (disch := omega) only [if_pos, if_neg, ite_true, ite_false, not_true_eq_false, Bool.false_eq_true, not_false_eq_true, eq_self, obs, ob1, ob2, obx, opx, li_0, li_1, li_2, li_3, li_4, li_5, li_6, li_7, li_8, li_9, li_10, li_14, li_16, li_20, li_21, li_24, li_25, li_32, li_44, li_48, li_57, li_60, li_64, li_81, li_84, li_99, li_100, li_101, li_108, li_111, li_115, li_116, li_120, li_140, li_255, li_500, li_999, li_1000, li_1092, li_1176, li_10000, li_100000, li_1000000, li_N, li_M, nI_add, pk_mul, pk_sub, pk_div, pk_rem, k_mod, nI_clamp, nI_leI, nI_ltI, nI_eq, qin_nI, nI_m1, nN_lt, nN_lt2, nN_le, nN_le2, nN_eq, nN_eq2, qin_nN, Option.some.injEq, Prod.mk.injEq, Sum.inl.injEq, m_isS_y kr_114 hT.2.1 (by omega) z]
    · have e2 := m_isS_n kr_114 hT.2.1 (by omega) (nn_ne z (show a < 2 ^ 31 by omega) (by omega))
      refine ⟨0, S, ?_, kp_rfl, by omega, fun T2 h => ?_, fun h => ⟨rfl, hT⟩⟩
      · simp (disch := omega) only [if_pos, if_neg, ite_true, ite_false, not_true_eq_false, Bool.false_eq_true, not_false_eq_true, eq_self, obs, ob1, ob2, obx, opx, li_0, li_1, li_2, li_3, li_4, li_5, li_6, li_7, li_8, li_9, li_10, li_14, li_16, li_20, li_21, li_24, li_25, li_32, li_44, li_48, li_57, li_60, li_64, li_81, li_84, li_99, li_100, li_101, li_108, li_111, li_115, li_116, li_120, li_140, li_255, li_500, li_999, li_1000, li_1092, li_1176, li_10000, li_100000, li_1000000, li_N, li_M, nI_add, pk_mul, pk_sub, pk_div, pk_rem, k_mod, nI_clamp, nI_leI, nI_ltI, nI_eq, qin_nI, nI_m1, nN_lt, nN_lt2, nN_le, nN_le2, nN_eq, nN_eq2, qin_nN, Option.some.injEq, Prod.mk.injEq, Sum.inl.injEq, e2]
      · rw [if_neg z] at h
        cases h
  · rw [t6 (by omega), t7 (by omega) (by omega), if_neg (show ¬ 2 < 2 by omega), if_pos (rfl : 2 = 2)]
    by_cases y : a < T 0 1
    · have e2 := m_isS_y kr_114 hT.2.1 (by omega) y
      by_cases z : b = 0
      · subst z
        have hin : F8_in (nI 0).toInt64 1 99 S = nI 0 := by
          rw [l64_1, l64_99]
          exact in_n S n0_ne (by omega) (by omega)
        have z2 : ¬ (a < T 0 1 ∧ (0 : Nat) ≠ 0) := fun v => v.2 rfl
        refine ⟨0, S, ?_, kp_rfl, by omega, fun T2 h => ?_, fun h => ⟨rfl, hT⟩⟩
        · simp (disch := omega) only [if_pos, if_neg, ite_true, ite_false, not_true_eq_false, Bool.false_eq_true, not_false_eq_true, eq_self, obs, ob1, ob2, obx, opx, li_0, li_1, li_2, li_3, li_4, li_5, li_6, li_7, li_8, li_9, li_10, li_14, li_16, li_20, li_21, li_24, li_25, li_32, li_44, li_48, li_57, li_60, li_64, li_81, li_84, li_99, li_100, li_101, li_108, li_111, li_115, li_116, li_120, li_140, li_255, li_500, li_999, li_1000, li_1092, li_1176, li_10000, li_100000, li_1000000, li_N, li_M, nI_add, pk_mul, pk_sub, pk_div, pk_rem, k_mod, nI_clamp, nI_leI, nI_ltI, nI_eq, qin_nI, nI_m1, nN_lt, nN_lt2, nN_le, nN_le2, nN_eq, nN_eq2, qin_nN, Option.some.injEq, Prod.mk.injEq, Sum.inl.injEq, e2, hin]
        · rw [if_neg z2] at h
          cases h
      · have hin : F8_in (nI b).toInt64 1 99 S = nI 1 := by
          rw [l64_1, l64_99]
          exact in_y S (by omega) (by omega) (by omega)
        have z2 : a < T 0 1 ∧ b ≠ 0 := ⟨y, z⟩
        have t2 := isM_st (x := 3) hT (Or.inl rfl) (by omega) y b
        rw [if_pos rfl] at t2
        refine ⟨1, qup S 114 (44 + a) (nI b), ?_, kp_up kp_rfl (by simp), by omega, fun T2 h => ?_, fun h => ?_⟩
        rotate_left
        · rw [if_pos z2] at h
          cases h
          exact ⟨rfl, t2⟩
        · rw [if_pos z2] at h
          cases h
        · simp (disch := omega) only [if_pos, if_neg, ite_true, ite_false, not_true_eq_false, Bool.false_eq_true, not_false_eq_true, eq_self, obs, ob1, ob2, obx, opx, li_0, li_1, li_2, li_3, li_4, li_5, li_6, li_7, li_8, li_9, li_10, li_14, li_16, li_20, li_21, li_24, li_25, li_32, li_44, li_48, li_57, li_60, li_64, li_81, li_84, li_99, li_100, li_101, li_108, li_111, li_115, li_116, li_120, li_140, li_255, li_500, li_999, li_1000, li_1092, li_1176, li_10000, li_100000, li_1000000, li_N, li_M, nI_add, pk_mul, pk_sub, pk_div, pk_rem, k_mod, nI_clamp, nI_leI, nI_ltI, nI_eq, qin_nI, nI_m1, nN_lt, nN_lt2, nN_le, nN_le2, nN_eq, nN_eq2, qin_nN, Option.some.injEq, Prod.mk.injEq, Sum.inl.injEq, e2, hin]
    · have e2 := m_isS_n kr_114 hT.2.1 (by omega) (nn_ne y (show a < 2 ^ 31 by omega) (by omega))
      have z2 : ¬ (a < T 0 1 ∧ b ≠ 0) := fun v => y v.1
      refine ⟨0, S, ?_, kp_rfl, by omega, fun T2 h => ?_, fun h => ⟨rfl, hT⟩⟩
      · simp (disch := omega) only [if_pos, if_neg, ite_true, ite_false, not_true_eq_false, Bool.false_eq_true, not_false_eq_true, eq_self, obs, ob1, ob2, obx, opx, li_0, li_1, li_2, li_3, li_4, li_5, li_6, li_7, li_8, li_9, li_10, li_14, li_16, li_20, li_21, li_24, li_25, li_32, li_44, li_48, li_57, li_60, li_64, li_81, li_84, li_99, li_100, li_101, li_108, li_111, li_115, li_116, li_120, li_140, li_255, li_500, li_999, li_1000, li_1092, li_1176, li_10000, li_100000, li_1000000, li_N, li_M, nI_add, pk_mul, pk_sub, pk_div, pk_rem, k_mod, nI_clamp, nI_leI, nI_ltI, nI_eq, qin_nI, nI_m1, nN_lt, nN_lt2, nN_le, nN_le2, nN_eq, nN_eq2, qin_nN, Option.some.injEq, Prod.mk.injEq, Sum.inl.injEq, e2]
      · rw [if_neg z2] at h
        cases h
  · rw [t6 (by omega), t7 (by omega) (by omega), if_neg (show ¬ 3 < 2 by omega), if_neg (show ¬ 3 = 2 by omega), if_pos (rfl : 3 = 3)]
    by_cases z : a < T 0 0 ∧ b < T 0 0 ∧ a ≠ b
    · obtain ⟨za, zb, zab⟩ := id z
      refine ⟨1, qup (qup S 114 2 (nI a)) 114 3 (nI b), ?_, kp_up (kp_up kp_rfl (by simp)) (by simp), by omega, fun T2 h => ?_, fun h => ?_⟩
      rotate_left
      · rw [if_pos z] at h
        cases h
        exact ⟨rfl, isM_hd (isM_hd hT (show 2 < 4 by omega) (by omega) a) (show 3 < 4 by omega) (by omega) b⟩
      · rw [if_pos z] at h
        cases h
      · have t7' := t7 (by omega) (by omega)
        simp (disch := omega) only [if_pos, if_neg, ite_true, ite_false, not_true_eq_false, Bool.false_eq_true, not_false_eq_true, eq_self, obs, ob1, ob2, obx, opx, li_0, li_1, li_2, li_3, li_4, li_5, li_6, li_7, li_8, li_9, li_10, li_14, li_16, li_20, li_21, li_24, li_25, li_32, li_44, li_48, li_57, li_60, li_64, li_81, li_84, li_99, li_100, li_101, li_108, li_111, li_115, li_116, li_120, li_140, li_255, li_500, li_999, li_1000, li_1092, li_1176, li_10000, li_100000, li_1000000, li_N, li_M, nI_add, pk_mul, pk_sub, pk_div, pk_rem, k_mod, nI_clamp, nI_leI, nI_ltI, nI_eq, qin_nI, nI_m1, nN_lt, nN_lt2, nN_le, nN_le2, nN_eq, nN_eq2, qin_nN, Option.some.injEq, Prod.mk.injEq, Sum.inl.injEq, m_isC_y kr_114 hT.1 (by omega) za, m_isC_y kr_114 hT.1 (by omega) zb, qup_o, t7']
    · refine ⟨0, S, ?_, kp_rfl, by omega, fun T2 h => ?_, fun h => ⟨rfl, hT⟩⟩
      · by_cases y : a < T 0 0
        · by_cases y2 : b < T 0 0
          · have hb : a = b := Classical.byContradiction fun v => z ⟨y, y2, v⟩
            subst hb
            simp (disch := omega) only [if_pos, if_neg, ite_true, ite_false, not_true_eq_false, Bool.false_eq_true, not_false_eq_true, eq_self, obs, ob1, ob2, obx, opx, li_0, li_1, li_2, li_3, li_4, li_5, li_6, li_7, li_8, li_9, li_10, li_14, li_16, li_20, li_21, li_24, li_25, li_32, li_44, li_48, li_57, li_60, li_64, li_81, li_84, li_99, li_100, li_101, li_108, li_111, li_115, li_116, li_120, li_140, li_255, li_500, li_999, li_1000, li_1092, li_1176, li_10000, li_100000, li_1000000, li_N, li_M, nI_add, pk_mul, pk_sub, pk_div, pk_rem, k_mod, nI_clamp, nI_leI, nI_ltI, nI_eq, qin_nI, nI_m1, nN_lt, nN_lt2, nN_le, nN_le2, nN_eq, nN_eq2, qin_nN, Option.some.injEq, Prod.mk.injEq, Sum.inl.injEq, m_isC_y kr_114 hT.1 (by omega) y]
          · simp (disch := omega) only [if_pos, if_neg, ite_true, ite_false, not_true_eq_false, Bool.false_eq_true, not_false_eq_true, eq_self, obs, ob1, ob2, obx, opx, li_0, li_1, li_2, li_3, li_4, li_5, li_6, li_7, li_8, li_9, li_10, li_14, li_16, li_20, li_21, li_24, li_25, li_32, li_44, li_48, li_57, li_60, li_64, li_81, li_84, li_99, li_100, li_101, li_108, li_111, li_115, li_116, li_120, li_140, li_255, li_500, li_999, li_1000, li_1092, li_1176, li_10000, li_100000, li_1000000, li_N, li_M, nI_add, pk_mul, pk_sub, pk_div, pk_rem, k_mod, nI_clamp, nI_leI, nI_ltI, nI_eq, qin_nI, nI_m1, nN_lt, nN_lt2, nN_le, nN_le2, nN_eq, nN_eq2, qin_nN, Option.some.injEq, Prod.mk.injEq, Sum.inl.injEq, m_isC_y kr_114 hT.1 (by omega) y, m_isC_n kr_114 hT.1 (by omega) (by omega) (nn_ne y2 (show b < 2 ^ 31 by omega) (by omega))]
        · simp (disch := omega) only [if_pos, if_neg, ite_true, ite_false, not_true_eq_false, Bool.false_eq_true, not_false_eq_true, eq_self, obs, ob1, ob2, obx, opx, li_0, li_1, li_2, li_3, li_4, li_5, li_6, li_7, li_8, li_9, li_10, li_14, li_16, li_20, li_21, li_24, li_25, li_32, li_44, li_48, li_57, li_60, li_64, li_81, li_84, li_99, li_100, li_101, li_108, li_111, li_115, li_116, li_120, li_140, li_255, li_500, li_999, li_1000, li_1092, li_1176, li_10000, li_100000, li_1000000, li_N, li_M, nI_add, pk_mul, pk_sub, pk_div, pk_rem, k_mod, nI_clamp, nI_leI, nI_ltI, nI_eq, qin_nI, nI_m1, nN_lt, nN_lt2, nN_le, nN_le2, nN_eq, nN_eq2, qin_nN, Option.some.injEq, Prod.mk.injEq, Sum.inl.injEq, m_isC_n kr_114 hT.1 (by omega) (by omega) (nn_ne y (show a < 2 ^ 31 by omega) (by omega))]
      · rw [if_neg z] at h
        cases h
  · rw [if_neg (show ¬ 4 < 2 by omega), if_neg (show ¬ 4 = 2 by omega), if_neg (show ¬ 4 = 3 by omega)]
    refine ⟨1, qup (qup S 114 2 (nI (T 0 3))) 114 3 (nI (T 0 2)), ?_, kp_up (kp_up kp_rfl (by simp)) (by simp), by omega, fun T2 h => ?_, fun h => ?_⟩
    · have z2 : S 114 2 = nI (T 0 2) := hT.2.2.1
      have z3 : S 114 3 = nI (T 0 3) := hT.2.2.2.1
      simp (disch := omega) only [if_pos, if_neg, ite_true, ite_false, not_true_eq_false, Bool.false_eq_true, not_false_eq_true, eq_self, obs, ob1, ob2, obx, opx, li_0, li_1, li_2, li_3, li_4, li_5, li_6, li_7, li_8, li_9, li_10, li_14, li_16, li_20, li_21, li_24, li_25, li_32, li_44, li_48, li_57, li_60, li_64, li_81, li_84, li_99, li_100, li_101, li_108, li_111, li_115, li_116, li_120, li_140, li_255, li_500, li_999, li_1000, li_1092, li_1176, li_10000, li_100000, li_1000000, li_N, li_M, nI_add, pk_mul, pk_sub, pk_div, pk_rem, k_mod, nI_clamp, nI_leI, nI_ltI, nI_eq, qin_nI, nI_m1, nN_lt, nN_lt2, nN_le, nN_le2, nN_eq, nN_eq2, qin_nN, Option.some.injEq, Prod.mk.injEq, Sum.inl.injEq, z2, z3]
    · cases h
      exact ⟨rfl, isM_hd (isM_hd hT (show 2 < 4 by omega) (by omega) (T 0 3)) (show 3 < 4 by omega) (by omega) (T 0 2)⟩
    · cases h
end QDO
