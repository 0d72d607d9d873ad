/-! GROUPS THAT ASK -/
section QGQ
variable {T : Tn} {n a b w : Nat}
theorem iam_n {x : Int32} {S : qSt} : F7_isAtMost nN x S = nI 0 := by
  unfold F7_isAtMost
  simp (disch := omega) only [if_pos, if_neg, ite_true, ite_false, not_true_eq_false, Bool.false_eq_true, not_false_eq_true, eq_self, obs, ob1, ob2, obx, opx, li_0, li_1, li_2, li_3, li_4, li_5, li_6, li_7, li_8, li_9, li_10, li_14, li_16, li_20, li_21, li_24, li_25, li_32, li_44, li_48, li_57, li_60, li_64, li_81, li_84, li_99, li_100, li_101, li_108, li_111, li_115, li_116, li_120, li_140, li_255, li_500, li_999, li_1000, li_1092, li_1176, li_10000, li_100000, li_1000000, li_N, li_M, nI_add, pk_mul, pk_sub, pk_div, pk_rem, k_mod, nI_clamp, nI_leI, nI_ltI, nI_eq, qin_nI, nI_m1, nN_lt, nN_lt2, nN_le, nN_le2, nN_eq, nN_eq2, qin_nN, Option.some.injEq, Prod.mk.injEq, Sum.inl.injEq]
theorem iam {x y : Nat} (hx : x < 2 ^ 31) (hy : y < 2 ^ 31) {S : qSt} : F7_isAtMost (nI x) (nI y) S = if x ≤ y then nI 1 else nI 0 := by
  unfold F7_isAtMost
  by_cases q : x ≤ y
  · rw [if_pos q]
    simp (disch := omega) only [if_pos, if_neg, ite_true, ite_false, not_true_eq_false, Bool.false_eq_true, not_false_eq_true, eq_self, obs, ob1, ob2, obx, opx, li_0, li_1, li_2, li_3, li_4, li_5, li_6, li_7, li_8, li_9, li_10, li_14, li_16, li_20, li_21, li_24, li_25, li_32, li_44, li_48, li_57, li_60, li_64, li_81, li_84, li_99, li_100, li_101, li_108, li_111, li_115, li_116, li_120, li_140, li_255, li_500, li_999, li_1000, li_1092, li_1176, li_10000, li_100000, li_1000000, li_N, li_M, nI_add, pk_mul, pk_sub, pk_div, pk_rem, k_mod, nI_clamp, nI_leI, nI_ltI, nI_eq, qin_nI, nI_m1, nN_lt, nN_lt2, nN_le, nN_le2, nN_eq, nN_eq2, qin_nN, Option.some.injEq, Prod.mk.injEq, Sum.inl.injEq]
  · rw [if_neg q]
    simp (disch := omega) only [if_pos, if_neg, ite_true, ite_false, not_true_eq_false, Bool.false_eq_true, not_false_eq_true, eq_self, obs, ob1, ob2, obx, opx, li_0, li_1, li_2, li_3, li_4, li_5, li_6, li_7, li_8, li_9, li_10, li_14, li_16, li_20, li_21, li_24, li_25, li_32, li_44, li_48, li_57, li_60, li_64, li_81, li_84, li_99, li_100, li_101, li_108, li_111, li_115, li_116, li_120, li_140, li_255, li_500, li_999, li_1000, li_1092, li_1176, li_10000, li_100000, li_1000000, li_N, li_M, nI_add, pk_mul, pk_sub, pk_div, pk_rem, k_mod, nI_clamp, nI_leI, nI_ltI, nI_eq, qin_nI, nI_m1, nN_lt, nN_lt2, nN_le, nN_le2, nN_eq, nN_eq2, qin_nN, Option.some.injEq, Prod.mk.injEq, Sum.inl.injEq]
theorem grp_6 (hv : vT T) (hn : 100000000 ≤ n) (ha : a < 10) (hb : b < 10) (hw : w < 100) : gOKr T (sG n (nI 6) (nI a) (nI b) (nI (10 * a + b)) (nI w) (nI (100 * b + w))) (F8_tryGroup n (nI 6) (nI a) (nI b) (nI w)) := by
  have h20 := hv.2.2.1
  obtain ⟨e, D, p, kk, hG, hD, hp, he, f1, f2, f3, hDU⟩ := all_ex hv 9999
  have hU : gU = 1000000 := rfl
  have hbl : ∀ S, isT S 13 T → ∃ S2, F7_bestLengthIn n 13 S = some (lenI (D (T 0 2)), S2) ∧ kp (pR 107) S S2 := fun S hS => c_bl (n := n) hS (Or.inl (by omega)) hv (by omega) hG (by omega) hD (by omega)
  have hbb : ∀ S, isM S 115 0 T → ∃ S2, F8_bestBut n 115 nN S = some (lenI (D (T 0 2)), S2) ∧ kp [111, 120, 121, 122] S S2 ∧ k1 [15] S S2 := fun S hS => by
    obtain ⟨S2, e2, k2, -, -⟩ := m_bb (n := n) (but := 9999) kr_115 (by omega) hS hv hG hD hn
    rw [bI_N] at e2
    exact ⟨S2, e2, kp_mono k2 (by simp), k1_kp k2 (by decide)⟩
  by_cases qa : a = 0
  case neg =>
    refine gr_q (b := 0) hv (by omega) (fun S hS => ⟨S, ?_, kp_rfl⟩) (fun S hS => ?_)
    · unfold sG
      simp (disch := omega) only [if_pos, if_neg, ite_true, ite_false, not_true_eq_false, Bool.false_eq_true, not_false_eq_true, eq_self, obs, ob1, ob2, obx, opx, li_0, li_1, li_2, li_3, li_4, li_5, li_6, li_7, li_8, li_9, li_10, li_14, li_16, li_20, li_21, li_24, li_25, li_32, li_44, li_48, li_57, li_60, li_64, li_81, li_84, li_99, li_100, li_101, li_108, li_111, li_115, li_116, li_120, li_140, li_255, li_500, li_999, li_1000, li_1092, li_1176, li_10000, li_100000, li_1000000, li_N, li_M, nI_add, pk_mul, pk_sub, pk_div, pk_rem, k_mod, nI_clamp, nI_leI, nI_ltI, nI_eq, qin_nI, nI_m1, nN_lt, nN_lt2, nN_le, nN_le2, nN_eq, nN_eq2, qin_nN, Option.some.injEq, Prod.mk.injEq, Sum.inl.injEq]
    · obtain ⟨S2, e2, k2, k3⟩ := hbb S hS
      refine ⟨S2, ?_, k2, k3⟩
      unfold F8_tryGroup
      simp (disch := omega) only [if_pos, if_neg, ite_true, ite_false, not_true_eq_false, Bool.false_eq_true, not_false_eq_true, eq_self, obs, ob1, ob2, obx, opx, li_0, li_1, li_2, li_3, li_4, li_5, li_6, li_7, li_8, li_9, li_10, li_14, li_16, li_20, li_21, li_24, li_25, li_32, li_44, li_48, li_57, li_60, li_64, li_81, li_84, li_99, li_100, li_101, li_108, li_111, li_115, li_116, li_120, li_140, li_255, li_500, li_999, li_1000, li_1092, li_1176, li_10000, li_100000, li_1000000, li_N, li_M, nI_add, pk_mul, pk_sub, pk_div, pk_rem, k_mod, nI_clamp, nI_leI, nI_ltI, nI_eq, qin_nI, nI_m1, nN_lt, nN_lt2, nN_le, nN_le2, nN_eq, nN_eq2, qin_nN, Option.some.injEq, Prod.mk.injEq, Sum.inl.injEq, e2]
  subst qa
  by_cases qD : D (T 0 2) = gU
  · have l := (lenI_N hDU).mpr qD
    refine gr_q (b := 0) hv (by omega) (fun S hS => ?_) (fun S hS => ?_)
    · obtain ⟨S2, e2, k2⟩ := hbl S hS
      rw [l] at e2
      refine ⟨S2, ?_, k2⟩
      unfold sG
      simp (disch := omega) only [if_pos, if_neg, ite_true, ite_false, not_true_eq_false, Bool.false_eq_true, not_false_eq_true, eq_self, obs, ob1, ob2, obx, opx, li_0, li_1, li_2, li_3, li_4, li_5, li_6, li_7, li_8, li_9, li_10, li_14, li_16, li_20, li_21, li_24, li_25, li_32, li_44, li_48, li_57, li_60, li_64, li_81, li_84, li_99, li_100, li_101, li_108, li_111, li_115, li_116, li_120, li_140, li_255, li_500, li_999, li_1000, li_1092, li_1176, li_10000, li_100000, li_1000000, li_N, li_M, nI_add, pk_mul, pk_sub, pk_div, pk_rem, k_mod, nI_clamp, nI_leI, nI_ltI, nI_eq, qin_nI, nI_m1, nN_lt, nN_lt2, nN_le, nN_le2, nN_eq, nN_eq2, qin_nN, Option.some.injEq, Prod.mk.injEq, Sum.inl.injEq, e2, iam_n]
    · obtain ⟨S2, e2, k2, k3⟩ := hbb S hS
      rw [l] at e2
      refine ⟨S2, ?_, k2, k3⟩
      unfold F8_tryGroup
      simp (disch := omega) only [if_pos, if_neg, ite_true, ite_false, not_true_eq_false, Bool.false_eq_true, not_false_eq_true, eq_self, obs, ob1, ob2, obx, opx, li_0, li_1, li_2, li_3, li_4, li_5, li_6, li_7, li_8, li_9, li_10, li_14, li_16, li_20, li_21, li_24, li_25, li_32, li_44, li_48, li_57, li_60, li_64, li_81, li_84, li_99, li_100, li_101, li_108, li_111, li_115, li_116, li_120, li_140, li_255, li_500, li_999, li_1000, li_1092, li_1176, li_10000, li_100000, li_1000000, li_N, li_M, nI_add, pk_mul, pk_sub, pk_div, pk_rem, k_mod, nI_clamp, nI_leI, nI_ltI, nI_eq, qin_nI, nI_m1, nN_lt, nN_lt2, nN_le, nN_le2, nN_eq, nN_eq2, qin_nN, Option.some.injEq, Prod.mk.injEq, Sum.inl.injEq, e2]
  · have l := lenI_y qD
    have q9 : D (T 0 2) / 100 < 100000 := by omega
    generalize D (T 0 2) / 100 = d at *
    by_cases z : d ≤ 100 * b + w
    · refine gr_q (b := 1) hv (by omega) (fun S hS => ?_) (fun S hS => ?_)
      · obtain ⟨S2, e2, k2⟩ := hbl S hS
        rw [l] at e2
        have i1 := iam (S := S2) (show d < 2 ^ 31 by omega) (show 100 * b + w < 2 ^ 31 by omega)
        rw [if_pos z] at i1
        refine ⟨S2, ?_, k2⟩
        unfold sG
        simp (disch := omega) only [if_pos, if_neg, ite_true, ite_false, not_true_eq_false, Bool.false_eq_true, not_false_eq_true, eq_self, obs, ob1, ob2, obx, opx, li_0, li_1, li_2, li_3, li_4, li_5, li_6, li_7, li_8, li_9, li_10, li_14, li_16, li_20, li_21, li_24, li_25, li_32, li_44, li_48, li_57, li_60, li_64, li_81, li_84, li_99, li_100, li_101, li_108, li_111, li_115, li_116, li_120, li_140, li_255, li_500, li_999, li_1000, li_1092, li_1176, li_10000, li_100000, li_1000000, li_N, li_M, nI_add, pk_mul, pk_sub, pk_div, pk_rem, k_mod, nI_clamp, nI_leI, nI_ltI, nI_eq, qin_nI, nI_m1, nN_lt, nN_lt2, nN_le, nN_le2, nN_eq, nN_eq2, qin_nN, Option.some.injEq, Prod.mk.injEq, Sum.inl.injEq, e2, i1]
      · obtain ⟨S2, e2, k2, k3⟩ := hbb S hS
        rw [l] at e2
        refine ⟨S2, ?_, k2, k3⟩
        unfold F8_tryGroup
        simp (disch := omega) only [if_pos, if_neg, ite_true, ite_false, not_true_eq_false, Bool.false_eq_true, not_false_eq_true, eq_self, obs, ob1, ob2, obx, opx, li_0, li_1, li_2, li_3, li_4, li_5, li_6, li_7, li_8, li_9, li_10, li_14, li_16, li_20, li_21, li_24, li_25, li_32, li_44, li_48, li_57, li_60, li_64, li_81, li_84, li_99, li_100, li_101, li_108, li_111, li_115, li_116, li_120, li_140, li_255, li_500, li_999, li_1000, li_1092, li_1176, li_10000, li_100000, li_1000000, li_N, li_M, nI_add, pk_mul, pk_sub, pk_div, pk_rem, k_mod, nI_clamp, nI_leI, nI_ltI, nI_eq, qin_nI, nI_m1, nN_lt, nN_lt2, nN_le, nN_le2, nN_eq, nN_eq2, qin_nN, Option.some.injEq, Prod.mk.injEq, Sum.inl.injEq, e2]
    · refine gr_q (b := 0) hv (by omega) (fun S hS => ?_) (fun S hS => ?_)
      · obtain ⟨S2, e2, k2⟩ := hbl S hS
        rw [l] at e2
        have i1 := iam (S := S2) (show d < 2 ^ 31 by omega) (show 100 * b + w < 2 ^ 31 by omega)
        rw [if_neg z] at i1
        refine ⟨S2, ?_, k2⟩
        unfold sG
        simp (disch := omega) only [if_pos, if_neg, ite_true, ite_false, not_true_eq_false, Bool.false_eq_true, not_false_eq_true, eq_self, obs, ob1, ob2, obx, opx, li_0, li_1, li_2, li_3, li_4, li_5, li_6, li_7, li_8, li_9, li_10, li_14, li_16, li_20, li_21, li_24, li_25, li_32, li_44, li_48, li_57, li_60, li_64, li_81, li_84, li_99, li_100, li_101, li_108, li_111, li_115, li_116, li_120, li_140, li_255, li_500, li_999, li_1000, li_1092, li_1176, li_10000, li_100000, li_1000000, li_N, li_M, nI_add, pk_mul, pk_sub, pk_div, pk_rem, k_mod, nI_clamp, nI_leI, nI_ltI, nI_eq, qin_nI, nI_m1, nN_lt, nN_lt2, nN_le, nN_le2, nN_eq, nN_eq2, qin_nN, Option.some.injEq, Prod.mk.injEq, Sum.inl.injEq, e2, i1]
      · obtain ⟨S2, e2, k2, k3⟩ := hbb S hS
        rw [l] at e2
        refine ⟨S2, ?_, k2, k3⟩
        unfold F8_tryGroup
        simp (disch := omega) only [if_pos, if_neg, ite_true, ite_false, not_true_eq_false, Bool.false_eq_true, not_false_eq_true, eq_self, obs, ob1, ob2, obx, opx, li_0, li_1, li_2, li_3, li_4, li_5, li_6, li_7, li_8, li_9, li_10, li_14, li_16, li_20, li_21, li_24, li_25, li_32, li_44, li_48, li_57, li_60, li_64, li_81, li_84, li_99, li_100, li_101, li_108, li_111, li_115, li_116, li_120, li_140, li_255, li_500, li_999, li_1000, li_1092, li_1176, li_10000, li_100000, li_1000000, li_N, li_M, nI_add, pk_mul, pk_sub, pk_div, pk_rem, k_mod, nI_clamp, nI_leI, nI_ltI, nI_eq, qin_nI, nI_m1, nN_lt, nN_lt2, nN_le, nN_le2, nN_eq, nN_eq2, qin_nN, Option.some.injEq, Prod.mk.injEq, Sum.inl.injEq, e2]
theorem grp_7 (hv : vT T) (hn : 100000000 ≤ n) (ha : a < 10) (hb : b < 10) (hw : w < 100) : gOKr T (sG n (nI 7) (nI a) (nI b) (nI (10 * a + b)) (nI w) (nI (100 * b + w))) (F8_tryGroup n (nI 7) (nI a) (nI b) (nI w)) := by
  have h20 := hv.2.2.1
  obtain ⟨e, D, p, kk, hG, hD, hp, he, f1, f2, f3, hDU⟩ := all_ex hv 9999
  have hlw : ∀ S, isM S 115 0 T → ∃ S2, F8_layWay n 115 nN S = some (lenI (D (T 0 2)), S2) ∧ kp [111, 120, 121, 122] S S2 ∧ k1 [15] S S2 ∧ isRM S2 p kk := fun S hS => by
    obtain ⟨S2, e2, k2, k3, rr, -⟩ := m_lw (n := n) (but := 9999) kr_115 (by omega) hS hv hG hD hp hn
    rw [bI_N] at e2
    exact ⟨S2, e2, k2, k3, rr⟩
  have hfd : ∀ S, isT S 13 T → ∃ S2, F2_find n 107 13 S = some S2 ∧ kp (pR 107) S S2 ∧ isR S2 107 p kk ∧ isT S2 13 T := fun S hS => by
    obtain ⟨S2, e2, k2, r2⟩ := c_find (o := 107) (n := n) hS (Or.inl (by omega)) hv (by omega) hG (by omega) hD hp (by omega)
    exact ⟨S2, e2, k2, r2, isT_kp hS k2 (by decide) (by decide) (by decide) (by decide) (by decide)⟩
  by_cases qw : w = 0
  case neg =>
    refine gr_q (b := 0) hv (by omega) (fun S hS => ⟨S, ?_, kp_rfl⟩) (fun S hS => ?_)
    · unfold sG
      simp (disch := omega) only [if_pos, if_neg, ite_true, ite_false, not_true_eq_false, Bool.false_eq_true, not_false_eq_true, eq_self, obs, ob1, ob2, obx, opx, li_0, li_1, li_2, li_3, li_4, li_5, li_6, li_7, li_8, li_9, li_10, li_14, li_16, li_20, li_21, li_24, li_25, li_32, li_44, li_48, li_57, li_60, li_64, li_81, li_84, li_99, li_100, li_101, li_108, li_111, li_115, li_116, li_120, li_140, li_255, li_500, li_999, li_1000, li_1092, li_1176, li_10000, li_100000, li_1000000, li_N, li_M, nI_add, pk_mul, pk_sub, pk_div, pk_rem, k_mod, nI_clamp, nI_leI, nI_ltI, nI_eq, qin_nI, nI_m1, nN_lt, nN_lt2, nN_le, nN_le2, nN_eq, nN_eq2, qin_nN, Option.some.injEq, Prod.mk.injEq, Sum.inl.injEq]
    · obtain ⟨S2, e2, k2, k3, -⟩ := hlw S hS
      refine ⟨S2, ?_, k2, k3⟩
      unfold F8_tryGroup
      simp (disch := omega) only [if_pos, if_neg, ite_true, ite_false, not_true_eq_false, Bool.false_eq_true, not_false_eq_true, eq_self, obs, ob1, ob2, obx, opx, li_0, li_1, li_2, li_3, li_4, li_5, li_6, li_7, li_8, li_9, li_10, li_14, li_16, li_20, li_21, li_24, li_25, li_32, li_44, li_48, li_57, li_60, li_64, li_81, li_84, li_99, li_100, li_101, li_108, li_111, li_115, li_116, li_120, li_140, li_255, li_500, li_999, li_1000, li_1092, li_1176, li_10000, li_100000, li_1000000, li_N, li_M, nI_add, pk_mul, pk_sub, pk_div, pk_rem, k_mod, nI_clamp, nI_leI, nI_ltI, nI_eq, qin_nI, nI_m1, nN_lt, nN_lt2, nN_le, nN_le2, nN_eq, nN_eq2, qin_nN, Option.some.injEq, Prod.mk.injEq, Sum.inl.injEq, e2]
  subst qw
  by_cases qs : 10 * a + b < T 0 1
  case neg =>
    refine gr_q (b := 0) hv (by omega) (fun S hS => ?_) (fun S hS => ?_)
    · obtain ⟨S2, e2, k2, r2, t2⟩ := hfd S hS
      refine ⟨S2, ?_, k2⟩
      unfold sG F7_isOnBestWayOfTrial
      simp (disch := omega) only [if_pos, if_neg, ite_true, ite_false, not_true_eq_false, Bool.false_eq_true, not_false_eq_true, eq_self, obs, ob1, ob2, obx, opx, li_0, li_1, li_2, li_3, li_4, li_5, li_6, li_7, li_8, li_9, li_10, li_14, li_16, li_20, li_21, li_24, li_25, li_32, li_44, li_48, li_57, li_60, li_64, li_81, li_84, li_99, li_100, li_101, li_108, li_111, li_115, li_116, li_120, li_140, li_255, li_500, li_999, li_1000, li_1092, li_1176, li_10000, li_100000, li_1000000, li_N, li_M, nI_add, pk_mul, pk_sub, pk_div, pk_rem, k_mod, nI_clamp, nI_leI, nI_ltI, nI_eq, qin_nI, nI_m1, nN_lt, nN_lt2, nN_le, nN_le2, nN_eq, nN_eq2, qin_nN, Option.some.injEq, Prod.mk.injEq, Sum.inl.injEq, e2, c_hasS_n t2.2.1 (by omega) (nn_ne qs (by omega) (by omega))]
    · obtain ⟨S2, e2, k2, k3, rr⟩ := hlw S hS
      have t2 := isM_kp hS k2 (by decide)
      refine ⟨S2, ?_, k2, k3⟩
      unfold F8_tryGroup
      simp (disch := omega) only [if_pos, if_neg, ite_true, ite_false, not_true_eq_false, Bool.false_eq_true, not_false_eq_true, eq_self, obs, ob1, ob2, obx, opx, li_0, li_1, li_2, li_3, li_4, li_5, li_6, li_7, li_8, li_9, li_10, li_14, li_16, li_20, li_21, li_24, li_25, li_32, li_44, li_48, li_57, li_60, li_64, li_81, li_84, li_99, li_100, li_101, li_108, li_111, li_115, li_116, li_120, li_140, li_255, li_500, li_999, li_1000, li_1092, li_1176, li_10000, li_100000, li_1000000, li_N, li_M, nI_add, pk_mul, pk_sub, pk_div, pk_rem, k_mod, nI_clamp, nI_leI, nI_ltI, nI_eq, qin_nI, nI_m1, nN_lt, nN_lt2, nN_le, nN_le2, nN_eq, nN_eq2, qin_nN, Option.some.injEq, Prod.mk.injEq, Sum.inl.injEq, e2, m_isS_n kr_115 t2.2.1 (by omega) (nn_ne qs (by omega) (by omega))]
  by_cases u : uP p kk (T 1 (10 * a + b)) (T 2 (10 * a + b))
  · have h0 := uP_open hv hG qs hp u
    refine gr_q (b := 1) hv (by omega) (fun S hS => ?_) (fun S hS => ?_)
    · obtain ⟨S2, e2, k2, r2, t2⟩ := hfd S hS
      refine ⟨S2, ?_, k2⟩
      unfold sG F7_isOnBestWayOfTrial
      simp (disch := omega) only [if_pos, if_neg, ite_true, ite_false, not_true_eq_false, Bool.false_eq_true, not_false_eq_true, eq_self, obs, ob1, ob2, obx, opx, li_0, li_1, li_2, li_3, li_4, li_5, li_6, li_7, li_8, li_9, li_10, li_14, li_16, li_20, li_21, li_24, li_25, li_32, li_44, li_48, li_57, li_60, li_64, li_81, li_84, li_99, li_100, li_101, li_108, li_111, li_115, li_116, li_120, li_140, li_255, li_500, li_999, li_1000, li_1092, li_1176, li_10000, li_100000, li_1000000, li_N, li_M, nI_add, pk_mul, pk_sub, pk_div, pk_rem, k_mod, nI_clamp, nI_leI, nI_ltI, nI_eq, qin_nI, nI_m1, nN_lt, nN_lt2, nN_le, nN_le2, nN_eq, nN_eq2, qin_nN, Option.some.injEq, Prod.mk.injEq, Sum.inl.injEq, e2, c_hasS_y t2.2.1 (by omega) qs, (c_uses t2 hv (by omega) r2 f1 f3 qs).1 u]
    · obtain ⟨S2, e2, k2, k3, rr⟩ := hlw S hS
      have t2 := isM_kp hS k2 (by decide)
      have t4 := (t2.2.2.2.2 _ qs).2.2
      rw [Nat.zero_add, h0] at t4
      refine ⟨S2, ?_, k2, k3⟩
      unfold F8_tryGroup
      simp (disch := omega) only [if_pos, if_neg, ite_true, ite_false, not_true_eq_false, Bool.false_eq_true, not_false_eq_true, eq_self, obs, ob1, ob2, obx, opx, li_0, li_1, li_2, li_3, li_4, li_5, li_6, li_7, li_8, li_9, li_10, li_14, li_16, li_20, li_21, li_24, li_25, li_32, li_44, li_48, li_57, li_60, li_64, li_81, li_84, li_99, li_100, li_101, li_108, li_111, li_115, li_116, li_120, li_140, li_255, li_500, li_999, li_1000, li_1092, li_1176, li_10000, li_100000, li_1000000, li_N, li_M, nI_add, pk_mul, pk_sub, pk_div, pk_rem, k_mod, nI_clamp, nI_leI, nI_ltI, nI_eq, qin_nI, nI_m1, nN_lt, nN_lt2, nN_le, nN_le2, nN_eq, nN_eq2, qin_nN, Option.some.injEq, Prod.mk.injEq, Sum.inl.injEq, e2, m_isS_y kr_115 t2.2.1 (by omega) qs, t4, (m_iw (n := n) kr_115 t2 hv rr f1 f2 f3 qs (by omega)).1 u]
  · refine gr_q (b := 0) hv (by omega) (fun S hS => ?_) (fun S hS => ?_)
    · obtain ⟨S2, e2, k2, r2, t2⟩ := hfd S hS
      refine ⟨S2, ?_, k2⟩
      unfold sG F7_isOnBestWayOfTrial
      simp (disch := omega) only [if_pos, if_neg, ite_true, ite_false, not_true_eq_false, Bool.false_eq_true, not_false_eq_true, eq_self, obs, ob1, ob2, obx, opx, li_0, li_1, li_2, li_3, li_4, li_5, li_6, li_7, li_8, li_9, li_10, li_14, li_16, li_20, li_21, li_24, li_25, li_32, li_44, li_48, li_57, li_60, li_64, li_81, li_84, li_99, li_100, li_101, li_108, li_111, li_115, li_116, li_120, li_140, li_255, li_500, li_999, li_1000, li_1092, li_1176, li_10000, li_100000, li_1000000, li_N, li_M, nI_add, pk_mul, pk_sub, pk_div, pk_rem, k_mod, nI_clamp, nI_leI, nI_ltI, nI_eq, qin_nI, nI_m1, nN_lt, nN_lt2, nN_le, nN_le2, nN_eq, nN_eq2, qin_nN, Option.some.injEq, Prod.mk.injEq, Sum.inl.injEq, e2, c_hasS_y t2.2.1 (by omega) qs, (c_uses t2 hv (by omega) r2 f1 f3 qs).2 u]
    · obtain ⟨S2, e2, k2, k3, rr⟩ := hlw S hS
      have t2 := isM_kp hS k2 (by decide)
      have t4 := (t2.2.2.2.2 _ qs).2.2
      rw [Nat.zero_add] at t4
      have v5 := (hv.2.2.2.2.2.2.1 _ qs).2.2.2.2
      refine ⟨S2, ?_, k2, k3⟩
      unfold F8_tryGroup
      by_cases z : T 4 (10 * a + b) = 0
      · rw [z] at t4
        simp (disch := omega) only [if_pos, if_neg, ite_true, ite_false, not_true_eq_false, Bool.false_eq_true, not_false_eq_true, eq_self, obs, ob1, ob2, obx, opx, li_0, li_1, li_2, li_3, li_4, li_5, li_6, li_7, li_8, li_9, li_10, li_14, li_16, li_20, li_21, li_24, li_25, li_32, li_44, li_48, li_57, li_60, li_64, li_81, li_84, li_99, li_100, li_101, li_108, li_111, li_115, li_116, li_120, li_140, li_255, li_500, li_999, li_1000, li_1092, li_1176, li_10000, li_100000, li_1000000, li_N, li_M, nI_add, pk_mul, pk_sub, pk_div, pk_rem, k_mod, nI_clamp, nI_leI, nI_ltI, nI_eq, qin_nI, nI_m1, nN_lt, nN_lt2, nN_le, nN_le2, nN_eq, nN_eq2, qin_nN, Option.some.injEq, Prod.mk.injEq, Sum.inl.injEq, e2, m_isS_y kr_115 t2.2.1 (by omega) qs, t4, (m_iw (n := n) kr_115 t2 hv rr f1 f2 f3 qs (by omega)).2 u]
      · rw [show T 4 (10 * a + b) = 1 by omega] at t4
        simp (disch := omega) only [if_pos, if_neg, ite_true, ite_false, not_true_eq_false, Bool.false_eq_true, not_false_eq_true, eq_self, obs, ob1, ob2, obx, opx, li_0, li_1, li_2, li_3, li_4, li_5, li_6, li_7, li_8, li_9, li_10, li_14, li_16, li_20, li_21, li_24, li_25, li_32, li_44, li_48, li_57, li_60, li_64, li_81, li_84, li_99, li_100, li_101, li_108, li_111, li_115, li_116, li_120, li_140, li_255, li_500, li_999, li_1000, li_1092, li_1176, li_10000, li_100000, li_1000000, li_N, li_M, nI_add, pk_mul, pk_sub, pk_div, pk_rem, k_mod, nI_clamp, nI_leI, nI_ltI, nI_eq, qin_nI, nI_m1, nN_lt, nN_lt2, nN_le, nN_le2, nN_eq, nN_eq2, qin_nN, Option.some.injEq, Prod.mk.injEq, Sum.inl.injEq, e2, m_isS_y kr_115 t2.2.1 (by omega) qs, t4]
theorem grp_8 (hv : vT T) (hn : 100000000 ≤ n) (ha : a < 10) (hb : b < 10) (hw : w < 100) : gOKr T (sG n (nI 8) (nI a) (nI b) (nI (10 * a + b)) (nI w) (nI (100 * b + w))) (F8_tryGroup n (nI 8) (nI a) (nI b) (nI w)) := by
  have h20 := hv.2.2.1
  obtain ⟨e, D, p, kk, hG, hD, hp, he, f1, f2, f3, hDU⟩ := all_ex hv 9999
  by_cases q0 : 10 * a + b = 0 ∧ w < 10
  case neg =>
    refine gr_n (fun S hS => ?_) (fun S hS => ?_)
    · unfold sG
      by_cases z : 10 * a + b = 0
      · simp (disch := omega) only [if_pos, if_neg, ite_true, ite_false, not_true_eq_false, Bool.false_eq_true, not_false_eq_true, eq_self, obs, ob1, ob2, obx, opx, li_0, li_1, li_2, li_3, li_4, li_5, li_6, li_7, li_8, li_9, li_10, li_14, li_16, li_20, li_21, li_24, li_25, li_32, li_44, li_48, li_57, li_60, li_64, li_81, li_84, li_99, li_100, li_101, li_108, li_111, li_115, li_116, li_120, li_140, li_255, li_500, li_999, li_1000, li_1092, li_1176, li_10000, li_100000, li_1000000, li_N, li_M, nI_add, pk_mul, pk_sub, pk_div, pk_rem, k_mod, nI_clamp, nI_leI, nI_ltI, nI_eq, qin_nI, nI_m1, nN_lt, nN_lt2, nN_le, nN_le2, nN_eq, nN_eq2, qin_nN, Option.some.injEq, Prod.mk.injEq, Sum.inl.injEq, z]
      · simp (disch := omega) only [if_pos, if_neg, ite_true, ite_false, not_true_eq_false, Bool.false_eq_true, not_false_eq_true, eq_self, obs, ob1, ob2, obx, opx, li_0, li_1, li_2, li_3, li_4, li_5, li_6, li_7, li_8, li_9, li_10, li_14, li_16, li_20, li_21, li_24, li_25, li_32, li_44, li_48, li_57, li_60, li_64, li_81, li_84, li_99, li_100, li_101, li_108, li_111, li_115, li_116, li_120, li_140, li_255, li_500, li_999, li_1000, li_1092, li_1176, li_10000, li_100000, li_1000000, li_N, li_M, nI_add, pk_mul, pk_sub, pk_div, pk_rem, k_mod, nI_clamp, nI_leI, nI_ltI, nI_eq, qin_nI, nI_m1, nN_lt, nN_lt2, nN_le, nN_le2, nN_eq, nN_eq2, qin_nN, Option.some.injEq, Prod.mk.injEq, Sum.inl.injEq]
    · unfold F8_tryGroup
      by_cases z : 10 * a + b = 0
      · simp (disch := omega) only [if_pos, if_neg, ite_true, ite_false, not_true_eq_false, Bool.false_eq_true, not_false_eq_true, eq_self, obs, ob1, ob2, obx, opx, li_0, li_1, li_2, li_3, li_4, li_5, li_6, li_7, li_8, li_9, li_10, li_14, li_16, li_20, li_21, li_24, li_25, li_32, li_44, li_48, li_57, li_60, li_64, li_81, li_84, li_99, li_100, li_101, li_108, li_111, li_115, li_116, li_120, li_140, li_255, li_500, li_999, li_1000, li_1092, li_1176, li_10000, li_100000, li_1000000, li_N, li_M, nI_add, pk_mul, pk_sub, pk_div, pk_rem, k_mod, nI_clamp, nI_leI, nI_ltI, nI_eq, qin_nI, nI_m1, nN_lt, nN_lt2, nN_le, nN_le2, nN_eq, nN_eq2, qin_nN, Option.some.injEq, Prod.mk.injEq, Sum.inl.injEq, z]
      · simp (disch := omega) only [if_pos, if_neg, ite_true, ite_false, not_true_eq_false, Bool.false_eq_true, not_false_eq_true, eq_self, obs, ob1, ob2, obx, opx, li_0, li_1, li_2, li_3, li_4, li_5, li_6, li_7, li_8, li_9, li_10, li_14, li_16, li_20, li_21, li_24, li_25, li_32, li_44, li_48, li_57, li_60, li_64, li_81, li_84, li_99, li_100, li_101, li_108, li_111, li_115, li_116, li_120, li_140, li_255, li_500, li_999, li_1000, li_1092, li_1176, li_10000, li_100000, li_1000000, li_N, li_M, nI_add, pk_mul, pk_sub, pk_div, pk_rem, k_mod, nI_clamp, nI_leI, nI_ltI, nI_eq, qin_nI, nI_m1, nN_lt, nN_lt2, nN_le, nN_le2, nN_eq, nN_eq2, qin_nN, Option.some.injEq, Prod.mk.injEq, Sum.inl.injEq]
  obtain ⟨q0, q1⟩ := q0
  obtain rfl : a = 0 := by omega
  obtain rfl : b = 0 := by omega
  have hlw : ∀ S, isM S 115 0 T → ∃ S2, F8_layWay n 115 nN S = some (lenI (D (T 0 2)), S2) ∧ kp [111, 120, 121, 122] S S2 ∧ k1 [15] S S2 ∧ isRM S2 p kk := fun S hS => by
    obtain ⟨S2, e2, k2, k3, rr, -⟩ := m_lw (n := n) (but := 9999) kr_115 (by omega) hS hv hG hD hp hn
    rw [bI_N] at e2
    exact ⟨S2, e2, k2, k3, rr⟩
  have hfd : ∀ S, isT S 13 T → ∃ S2, F2_find n 107 13 S = some S2 ∧ kp (pR 107) S S2 ∧ F2_streets 107 S2 = if kk = 0 then nN else nI (kk - 1) := fun S hS => by
    obtain ⟨S2, e2, k2, r2⟩ := c_find (o := 107) (n := n) hS (Or.inl (by omega)) hv (by omega) hG (by omega) hD hp (by omega)
    exact ⟨S2, e2, k2, c_sts r2 f1⟩
  have bit0 : ((nI 0 : Int32) &&& 1 = nI 0) = True := eq_true (by decide +kernel)
  have bit1 : ((nI 1 : Int32) &&& 1 = nI 1) = True := eq_true (by decide +kernel)
  rcases hp with ⟨hU, hk0⟩ | ⟨hU, m, hkm, -⟩
  · have l := (lenI_N hDU).mpr hU
    refine gr_q (b := 0) hv (by omega) (fun S hS => ?_) (fun S hS => ?_)
    · obtain ⟨S2, e2, k2, r2⟩ := hfd S hS
      rw [if_pos hk0] at r2
      refine ⟨S2, ?_, k2⟩
      have ht : F7_hasTrialWayOf n (nI w) S = some (nI 0, S2) := by
        unfold F7_hasTrialWayOf
        rw [e2]
        show (if (F7_isAtMost (F2_streets 107 S2) (nI w) S2) &&& 1 = (F7_isAtMost (F2_streets 107 S2) (nI w) S2) then some (F7_isAtMost (F2_streets 107 S2) (nI w) S2, S2) else none) = _
        rw [r2, iam_n]
        rfl
      unfold sG
      simp (disch := omega) only [if_pos, if_neg, ite_true, ite_false, not_true_eq_false, Bool.false_eq_true, not_false_eq_true, eq_self, obs, ob1, ob2, obx, opx, li_0, li_1, li_2, li_3, li_4, li_5, li_6, li_7, li_8, li_9, li_10, li_14, li_16, li_20, li_21, li_24, li_25, li_32, li_44, li_48, li_57, li_60, li_64, li_81, li_84, li_99, li_100, li_101, li_108, li_111, li_115, li_116, li_120, li_140, li_255, li_500, li_999, li_1000, li_1092, li_1176, li_10000, li_100000, li_1000000, li_N, li_M, nI_add, pk_mul, pk_sub, pk_div, pk_rem, k_mod, nI_clamp, nI_leI, nI_ltI, nI_eq, qin_nI, nI_m1, nN_lt, nN_lt2, nN_le, nN_le2, nN_eq, nN_eq2, qin_nN, Option.some.injEq, Prod.mk.injEq, Sum.inl.injEq, ht]
    · obtain ⟨S2, e2, k2, k3, -⟩ := hlw S hS
      rw [l] at e2
      refine ⟨S2, ?_, k2, k3⟩
      unfold F8_tryGroup
      simp (disch := omega) only [if_pos, if_neg, ite_true, ite_false, not_true_eq_false, Bool.false_eq_true, not_false_eq_true, eq_self, obs, ob1, ob2, obx, opx, li_0, li_1, li_2, li_3, li_4, li_5, li_6, li_7, li_8, li_9, li_10, li_14, li_16, li_20, li_21, li_24, li_25, li_32, li_44, li_48, li_57, li_60, li_64, li_81, li_84, li_99, li_100, li_101, li_108, li_111, li_115, li_116, li_120, li_140, li_255, li_500, li_999, li_1000, li_1092, li_1176, li_10000, li_100000, li_1000000, li_N, li_M, nI_add, pk_mul, pk_sub, pk_div, pk_rem, k_mod, nI_clamp, nI_leI, nI_ltI, nI_eq, qin_nI, nI_m1, nN_lt, nN_lt2, nN_le, nN_le2, nN_eq, nN_eq2, qin_nN, Option.some.injEq, Prod.mk.injEq, Sum.inl.injEq, e2]
  · have l := lenI_y hU
    have q9 : D (T 0 2) / 100 < 100000 := by
      have hU2 : gU = 1000000 := rfl
      omega
    generalize D (T 0 2) / 100 = d at *
    by_cases z : kk - 1 ≤ w
    · refine gr_q (b := 1) hv (by omega) (fun S hS => ?_) (fun S hS => ?_)
      · obtain ⟨S2, e2, k2, r2⟩ := hfd S hS
        rw [if_neg (by omega)] at r2
        refine ⟨S2, ?_, k2⟩
        have ht : F7_hasTrialWayOf n (nI w) S = some (nI 1, S2) := by
          unfold F7_hasTrialWayOf
          rw [e2]
          show (if (F7_isAtMost (F2_streets 107 S2) (nI w) S2) &&& 1 = (F7_isAtMost (F2_streets 107 S2) (nI w) S2) then some (F7_isAtMost (F2_streets 107 S2) (nI w) S2, S2) else none) = _
          rw [r2, iam (by omega) (by omega), if_pos z]
          rfl
        unfold sG
        simp (disch := omega) only [if_pos, if_neg, ite_true, ite_false, not_true_eq_false, Bool.false_eq_true, not_false_eq_true, eq_self, obs, ob1, ob2, obx, opx, li_0, li_1, li_2, li_3, li_4, li_5, li_6, li_7, li_8, li_9, li_10, li_14, li_16, li_20, li_21, li_24, li_25, li_32, li_44, li_48, li_57, li_60, li_64, li_81, li_84, li_99, li_100, li_101, li_108, li_111, li_115, li_116, li_120, li_140, li_255, li_500, li_999, li_1000, li_1092, li_1176, li_10000, li_100000, li_1000000, li_N, li_M, nI_add, pk_mul, pk_sub, pk_div, pk_rem, k_mod, nI_clamp, nI_leI, nI_ltI, nI_eq, qin_nI, nI_m1, nN_lt, nN_lt2, nN_le, nN_le2, nN_eq, nN_eq2, qin_nN, Option.some.injEq, Prod.mk.injEq, Sum.inl.injEq, ht]
      · obtain ⟨S2, e2, k2, k3, rr⟩ := hlw S hS
        rw [l] at e2
        refine ⟨S2, ?_, k2, k3⟩
        unfold F8_tryGroup
        simp (disch := omega) only [if_pos, if_neg, ite_true, ite_false, not_true_eq_false, Bool.false_eq_true, not_false_eq_true, eq_self, obs, ob1, ob2, obx, opx, li_0, li_1, li_2, li_3, li_4, li_5, li_6, li_7, li_8, li_9, li_10, li_14, li_16, li_20, li_21, li_24, li_25, li_32, li_44, li_48, li_57, li_60, li_64, li_81, li_84, li_99, li_100, li_101, li_108, li_111, li_115, li_116, li_120, li_140, li_255, li_500, li_999, li_1000, li_1092, li_1176, li_10000, li_100000, li_1000000, li_N, li_M, nI_add, pk_mul, pk_sub, pk_div, pk_rem, k_mod, nI_clamp, nI_leI, nI_ltI, nI_eq, qin_nI, nI_m1, nN_lt, nN_lt2, nN_le, nN_le2, nN_eq, nN_eq2, qin_nN, Option.some.injEq, Prod.mk.injEq, Sum.inl.injEq, e2, rr.1]
    · refine gr_q (b := 0) hv (by omega) (fun S hS => ?_) (fun S hS => ?_)
      · obtain ⟨S2, e2, k2, r2⟩ := hfd S hS
        rw [if_neg (by omega)] at r2
        refine ⟨S2, ?_, k2⟩
        have ht : F7_hasTrialWayOf n (nI w) S = some (nI 0, S2) := by
          unfold F7_hasTrialWayOf
          rw [e2]
          show (if (F7_isAtMost (F2_streets 107 S2) (nI w) S2) &&& 1 = (F7_isAtMost (F2_streets 107 S2) (nI w) S2) then some (F7_isAtMost (F2_streets 107 S2) (nI w) S2, S2) else none) = _
          rw [r2, iam (by omega) (by omega), if_neg z]
          rfl
        unfold sG
        simp (disch := omega) only [if_pos, if_neg, ite_true, ite_false, not_true_eq_false, Bool.false_eq_true, not_false_eq_true, eq_self, obs, ob1, ob2, obx, opx, li_0, li_1, li_2, li_3, li_4, li_5, li_6, li_7, li_8, li_9, li_10, li_14, li_16, li_20, li_21, li_24, li_25, li_32, li_44, li_48, li_57, li_60, li_64, li_81, li_84, li_99, li_100, li_101, li_108, li_111, li_115, li_116, li_120, li_140, li_255, li_500, li_999, li_1000, li_1092, li_1176, li_10000, li_100000, li_1000000, li_N, li_M, nI_add, pk_mul, pk_sub, pk_div, pk_rem, k_mod, nI_clamp, nI_leI, nI_ltI, nI_eq, qin_nI, nI_m1, nN_lt, nN_lt2, nN_le, nN_le2, nN_eq, nN_eq2, qin_nN, Option.some.injEq, Prod.mk.injEq, Sum.inl.injEq, ht]
      · obtain ⟨S2, e2, k2, k3, rr⟩ := hlw S hS
        rw [l] at e2
        refine ⟨S2, ?_, k2, k3⟩
        unfold F8_tryGroup
        simp (disch := omega) only [if_pos, if_neg, ite_true, ite_false, not_true_eq_false, Bool.false_eq_true, not_false_eq_true, eq_self, obs, ob1, ob2, obx, opx, li_0, li_1, li_2, li_3, li_4, li_5, li_6, li_7, li_8, li_9, li_10, li_14, li_16, li_20, li_21, li_24, li_25, li_32, li_44, li_48, li_57, li_60, li_64, li_81, li_84, li_99, li_100, li_101, li_108, li_111, li_115, li_116, li_120, li_140, li_255, li_500, li_999, li_1000, li_1092, li_1176, li_10000, li_100000, li_1000000, li_N, li_M, nI_add, pk_mul, pk_sub, pk_div, pk_rem, k_mod, nI_clamp, nI_leI, nI_ltI, nI_eq, qin_nI, nI_m1, nN_lt, nN_lt2, nN_le, nN_le2, nN_eq, nN_eq2, qin_nN, Option.some.injEq, Prod.mk.injEq, Sum.inl.injEq, e2, rr.1]
theorem grp_9 (hv : vT T) (hn : 100000000 ≤ n) (ha : a < 10) (hb : b < 10) (hw : w < 100) : gOKr T (sG n (nI 9) (nI a) (nI b) (nI (10 * a + b)) (nI w) (nI (100 * b + w))) (F8_tryGroup n (nI 9) (nI a) (nI b) (nI w)) := by
  have h20 := hv.2.2.1
  have h9 := hv.2.1
  have h2 := hv.1
  have hst := hv.2.2.2.1
  have hU : gU = 1000000 := rfl
  by_cases qb : b = 0
  case neg =>
    refine gr_n (fun S hS => ?_) (fun S hS => ?_)
    · unfold sG
      simp (disch := omega) only [if_pos, if_neg, ite_true, ite_false, not_true_eq_false, Bool.false_eq_true, not_false_eq_true, eq_self, obs, ob1, ob2, obx, opx, li_0, li_1, li_2, li_3, li_4, li_5, li_6, li_7, li_8, li_9, li_10, li_14, li_16, li_20, li_21, li_24, li_25, li_32, li_44, li_48, li_57, li_60, li_64, li_81, li_84, li_99, li_100, li_101, li_108, li_111, li_115, li_116, li_120, li_140, li_255, li_500, li_999, li_1000, li_1092, li_1176, li_10000, li_100000, li_1000000, li_N, li_M, nI_add, pk_mul, pk_sub, pk_div, pk_rem, k_mod, nI_clamp, nI_leI, nI_ltI, nI_eq, qin_nI, nI_m1, nN_lt, nN_lt2, nN_le, nN_le2, nN_eq, nN_eq2, qin_nN, Option.some.injEq, Prod.mk.injEq, Sum.inl.injEq]
    · unfold F8_tryGroup
      simp (disch := omega) only [if_pos, if_neg, ite_true, ite_false, not_true_eq_false, Bool.false_eq_true, not_false_eq_true, eq_self, obs, ob1, ob2, obx, opx, li_0, li_1, li_2, li_3, li_4, li_5, li_6, li_7, li_8, li_9, li_10, li_14, li_16, li_20, li_21, li_24, li_25, li_32, li_44, li_48, li_57, li_60, li_64, li_81, li_84, li_99, li_100, li_101, li_108, li_111, li_115, li_116, li_120, li_140, li_255, li_500, li_999, li_1000, li_1092, li_1176, li_10000, li_100000, li_1000000, li_N, li_M, nI_add, pk_mul, pk_sub, pk_div, pk_rem, k_mod, nI_clamp, nI_leI, nI_ltI, nI_eq, qin_nI, nI_m1, nN_lt, nN_lt2, nN_le, nN_le2, nN_eq, nN_eq2, qin_nN, Option.some.injEq, Prod.mk.injEq, Sum.inl.injEq]
  subst qb
  obtain ⟨e, hG⟩ := isG_ex T 9999 hv
  have he := isG_ok hv hG
  obtain ⟨D, hD⟩ := gD_ex 100 he (show T 0 2 < 9 by omega)
  have hW16 := gConv_D he (show T 0 2 < 9 by omega) hD
  have hcw : ∀ S, isT S 13 T → ∃ S2, F2_weigh n 107 13 (nI (T 0 2)) S = some S2 ∧ kp (pR 107) S S2 ∧ isW S2 (107 + 1) (gConv D) ∧ isT S2 13 T := fun S hS => by
    obtain ⟨S2, e2, k2, w2⟩ := c_weigh (o := 107) (n := n) hS (by decide) hv (by omega) hG (by omega) hW16 (by omega) (by omega)
    have k3 : kp (pR 107) S S2 := kp_mono k2 (by simp)
    exact ⟨S2, e2, k3, w2, isT_kp hS k3 (by decide) (by decide) (by decide) (by decide) (by decide)⟩
  by_cases qa : a < T 0 0
  case neg =>
    refine gr_q (b := 0) hv (by omega) (fun S hS => ?_) (fun S hS => ⟨S, ?_, kp_rfl, k1_rfl⟩)
    · obtain ⟨S2, e2, k2, w2, t2⟩ := hcw S hS
      refine ⟨S2, ?_, k2⟩
      unfold sG F7_isNearInTrial
      simp (disch := omega) only [if_pos, if_neg, ite_true, ite_false, not_true_eq_false, Bool.false_eq_true, not_false_eq_true, eq_self, obs, ob1, ob2, obx, opx, li_0, li_1, li_2, li_3, li_4, li_5, li_6, li_7, li_8, li_9, li_10, li_14, li_16, li_20, li_21, li_24, li_25, li_32, li_44, li_48, li_57, li_60, li_64, li_81, li_84, li_99, li_100, li_101, li_108, li_111, li_115, li_116, li_120, li_140, li_255, li_500, li_999, li_1000, li_1092, li_1176, li_10000, li_100000, li_1000000, li_N, li_M, nI_add, pk_mul, pk_sub, pk_div, pk_rem, k_mod, nI_clamp, nI_leI, nI_ltI, nI_eq, qin_nI, nI_m1, nN_lt, nN_lt2, nN_le, nN_le2, nN_eq, nN_eq2, qin_nN, Option.some.injEq, Prod.mk.injEq, Sum.inl.injEq, hS.2.2.1, e2, c_hasC_n t2.1 (by omega) (nn_ne qa (by omega) (by omega))]
    · unfold F8_tryGroup
      simp (disch := omega) only [if_pos, if_neg, ite_true, ite_false, not_true_eq_false, Bool.false_eq_true, not_false_eq_true, eq_self, obs, ob1, ob2, obx, opx, li_0, li_1, li_2, li_3, li_4, li_5, li_6, li_7, li_8, li_9, li_10, li_14, li_16, li_20, li_21, li_24, li_25, li_32, li_44, li_48, li_57, li_60, li_64, li_81, li_84, li_99, li_100, li_101, li_108, li_111, li_115, li_116, li_120, li_140, li_255, li_500, li_999, li_1000, li_1092, li_1176, li_10000, li_100000, li_1000000, li_N, li_M, nI_add, pk_mul, pk_sub, pk_div, pk_rem, k_mod, nI_clamp, nI_leI, nI_ltI, nI_eq, qin_nI, nI_m1, nN_lt, nN_lt2, nN_le, nN_le2, nN_eq, nN_eq2, qin_nN, Option.some.injEq, Prod.mk.injEq, Sum.inl.injEq, m_isC_n kr_115 hS.1 (by omega) (by omega) (nn_ne qa (by omega) (by omega))]
  have hDa := hD.1.2.1 a (by omega)
  have hmf : ∀ S, isM S 115 0 T → ∃ S5 S6, F8_layCosts n 115 nN S = some S5 ∧ S5 115 2 = nI (T 0 2) ∧ F8_layFar n 115 (nI (T 0 2)) S5 = some S6 ∧ S6 121 a = nI (D a) ∧ kp [111, 120, 121, 122] S S6 ∧ k1 [15] S S6 := fun S hS => by
    obtain ⟨S5, e5, k5, c5⟩ := m_lc (n := n) (but := 9999) kr_115 (by omega) hS hv hG (by omega)
    obtain ⟨S6, e6, k6, w6⟩ := m_far (n := n) (m := 115) he c5 hD (by omega) hn
    have k7 : kp [120, 121] S S6 := kp_tr k5 k6 (by simp) (by simp)
    have hT5 := isM_kp hS k5 (by decide)
    rw [bI_N] at e5
    exact ⟨S5, S6, e5, hT5.2.2.1, e6, w6 a (by omega), kp_mono k7 (by simp), k1_kp k7 (by decide)⟩
  have hlf : ∀ S2, isW S2 (107 + 1) (gConv D) → F2_lengthFrom 107 (nI a) S2 = some (lenI (D a)) := fun S2 w2 => c_lf2 (o := 107) he (by omega) hD hW16 w2 (by omega)
  by_cases qD : D a = gU
  · have l := (lenI_N hDa).mpr qD
    refine gr_q (b := 0) hv (by omega) (fun S hS => ?_) (fun S hS => ?_)
    · obtain ⟨S2, e2, k2, w2, t2⟩ := hcw S hS
      refine ⟨S2, ?_, k2⟩
      unfold sG F7_isNearInTrial
      simp (disch := omega) only [if_pos, if_neg, ite_true, ite_false, not_true_eq_false, Bool.false_eq_true, not_false_eq_true, eq_self, obs, ob1, ob2, obx, opx, li_0, li_1, li_2, li_3, li_4, li_5, li_6, li_7, li_8, li_9, li_10, li_14, li_16, li_20, li_21, li_24, li_25, li_32, li_44, li_48, li_57, li_60, li_64, li_81, li_84, li_99, li_100, li_101, li_108, li_111, li_115, li_116, li_120, li_140, li_255, li_500, li_999, li_1000, li_1092, li_1176, li_10000, li_100000, li_1000000, li_N, li_M, nI_add, pk_mul, pk_sub, pk_div, pk_rem, k_mod, nI_clamp, nI_leI, nI_ltI, nI_eq, qin_nI, nI_m1, nN_lt, nN_lt2, nN_le, nN_le2, nN_eq, nN_eq2, qin_nN, Option.some.injEq, Prod.mk.injEq, Sum.inl.injEq, hS.2.2.1, e2, c_hasC_y t2.1 (by omega) qa, hlf S2 w2, l, iam_n]
    · obtain ⟨S5, S6, e5, s5, e6, w6, k6, kk6⟩ := hmf S hS
      have ml : F8_lengthOf (nI (D a)) S6 = nN := by
        rw [m_len hDa, if_pos qD]
      refine ⟨S6, ?_, k6, kk6⟩
      unfold F8_tryGroup
      simp (disch := omega) only [if_pos, if_neg, ite_true, ite_false, not_true_eq_false, Bool.false_eq_true, not_false_eq_true, eq_self, obs, ob1, ob2, obx, opx, li_0, li_1, li_2, li_3, li_4, li_5, li_6, li_7, li_8, li_9, li_10, li_14, li_16, li_20, li_21, li_24, li_25, li_32, li_44, li_48, li_57, li_60, li_64, li_81, li_84, li_99, li_100, li_101, li_108, li_111, li_115, li_116, li_120, li_140, li_255, li_500, li_999, li_1000, li_1092, li_1176, li_10000, li_100000, li_1000000, li_N, li_M, nI_add, pk_mul, pk_sub, pk_div, pk_rem, k_mod, nI_clamp, nI_leI, nI_ltI, nI_eq, qin_nI, nI_m1, nN_lt, nN_lt2, nN_le, nN_le2, nN_eq, nN_eq2, qin_nN, Option.some.injEq, Prod.mk.injEq, Sum.inl.injEq, m_isC_y kr_115 hS.1 (by omega) qa, e5, s5, e6, w6, ml]
  · have l := lenI_y qD
    have ml : ∀ S6, F8_lengthOf (nI (D a)) S6 = nI (D a / 100) := fun S6 => by
      rw [m_len hDa, if_neg qD]
    have q9 : D a / 100 < 100000 := by omega
    generalize hd : D a / 100 = d at *
    by_cases z : d ≤ w
    · refine gr_q (b := 1) hv (by omega) (fun S hS => ?_) (fun S hS => ?_)
      · obtain ⟨S2, e2, k2, w2, t2⟩ := hcw S hS
        have i1 := iam (S := S2) (show d < 2 ^ 31 by omega) (show w < 2 ^ 31 by omega)
        rw [if_pos z] at i1
        refine ⟨S2, ?_, k2⟩
        unfold sG F7_isNearInTrial
        simp (disch := omega) only [if_pos, if_neg, ite_true, ite_false, not_true_eq_false, Bool.false_eq_true, not_false_eq_true, eq_self, obs, ob1, ob2, obx, opx, li_0, li_1, li_2, li_3, li_4, li_5, li_6, li_7, li_8, li_9, li_10, li_14, li_16, li_20, li_21, li_24, li_25, li_32, li_44, li_48, li_57, li_60, li_64, li_81, li_84, li_99, li_100, li_101, li_108, li_111, li_115, li_116, li_120, li_140, li_255, li_500, li_999, li_1000, li_1092, li_1176, li_10000, li_100000, li_1000000, li_N, li_M, nI_add, pk_mul, pk_sub, pk_div, pk_rem, k_mod, nI_clamp, nI_leI, nI_ltI, nI_eq, qin_nI, nI_m1, nN_lt, nN_lt2, nN_le, nN_le2, nN_eq, nN_eq2, qin_nN, Option.some.injEq, Prod.mk.injEq, Sum.inl.injEq, hS.2.2.1, e2, c_hasC_y t2.1 (by omega) qa, hlf S2 w2, l, i1]
      · obtain ⟨S5, S6, e5, s5, e6, w6, k6, kk6⟩ := hmf S hS
        refine ⟨S6, ?_, k6, kk6⟩
        unfold F8_tryGroup
        simp (disch := omega) only [if_pos, if_neg, ite_true, ite_false, not_true_eq_false, Bool.false_eq_true, not_false_eq_true, eq_self, obs, ob1, ob2, obx, opx, li_0, li_1, li_2, li_3, li_4, li_5, li_6, li_7, li_8, li_9, li_10, li_14, li_16, li_20, li_21, li_24, li_25, li_32, li_44, li_48, li_57, li_60, li_64, li_81, li_84, li_99, li_100, li_101, li_108, li_111, li_115, li_116, li_120, li_140, li_255, li_500, li_999, li_1000, li_1092, li_1176, li_10000, li_100000, li_1000000, li_N, li_M, nI_add, pk_mul, pk_sub, pk_div, pk_rem, k_mod, nI_clamp, nI_leI, nI_ltI, nI_eq, qin_nI, nI_m1, nN_lt, nN_lt2, nN_le, nN_le2, nN_eq, nN_eq2, qin_nN, Option.some.injEq, Prod.mk.injEq, Sum.inl.injEq, m_isC_y kr_115 hS.1 (by omega) qa, e5, s5, e6, w6, ml]
    · refine gr_q (b := 0) hv (by omega) (fun S hS => ?_) (fun S hS => ?_)
      · obtain ⟨S2, e2, k2, w2, t2⟩ := hcw S hS
        have i1 := iam (S := S2) (show d < 2 ^ 31 by omega) (show w < 2 ^ 31 by omega)
        rw [if_neg z] at i1
        refine ⟨S2, ?_, k2⟩
        unfold sG F7_isNearInTrial
        simp (disch := omega) only [if_pos, if_neg, ite_true, ite_false, not_true_eq_false, Bool.false_eq_true, not_false_eq_true, eq_self, obs, ob1, ob2, obx, opx, li_0, li_1, li_2, li_3, li_4, li_5, li_6, li_7, li_8, li_9, li_10, li_14, li_16, li_20, li_21, li_24, li_25, li_32, li_44, li_48, li_57, li_60, li_64, li_81, li_84, li_99, li_100, li_101, li_108, li_111, li_115, li_116, li_120, li_140, li_255, li_500, li_999, li_1000, li_1092, li_1176, li_10000, li_100000, li_1000000, li_N, li_M, nI_add, pk_mul, pk_sub, pk_div, pk_rem, k_mod, nI_clamp, nI_leI, nI_ltI, nI_eq, qin_nI, nI_m1, nN_lt, nN_lt2, nN_le, nN_le2, nN_eq, nN_eq2, qin_nN, Option.some.injEq, Prod.mk.injEq, Sum.inl.injEq, hS.2.2.1, e2, c_hasC_y t2.1 (by omega) qa, hlf S2 w2, l, i1]
      · obtain ⟨S5, S6, e5, s5, e6, w6, k6, kk6⟩ := hmf S hS
        refine ⟨S6, ?_, k6, kk6⟩
        unfold F8_tryGroup
        simp (disch := omega) only [if_pos, if_neg, ite_true, ite_false, not_true_eq_false, Bool.false_eq_true, not_false_eq_true, eq_self, obs, ob1, ob2, obx, opx, li_0, li_1, li_2, li_3, li_4, li_5, li_6, li_7, li_8, li_9, li_10, li_14, li_16, li_20, li_21, li_24, li_25, li_32, li_44, li_48, li_57, li_60, li_64, li_81, li_84, li_99, li_100, li_101, li_108, li_111, li_115, li_116, li_120, li_140, li_255, li_500, li_999, li_1000, li_1092, li_1176, li_10000, li_100000, li_1000000, li_N, li_M, nI_add, pk_mul, pk_sub, pk_div, pk_rem, k_mod, nI_clamp, nI_leI, nI_ltI, nI_eq, qin_nI, nI_m1, nN_lt, nN_lt2, nN_le, nN_le2, nN_eq, nN_eq2, qin_nN, Option.some.injEq, Prod.mk.injEq, Sum.inl.injEq, m_isC_y kr_115 hS.1 (by omega) qa, e5, s5, e6, w6, ml]
theorem grp {h : Nat} (hv : vT T) (hn : 100000000 ≤ n) (hh : h < 10) (ha : a < 10) (hb : b < 10) (hw : w < 100) : gOKr T (sG n (nI h) (nI a) (nI b) (nI (10 * a + b)) (nI w) (nI (100 * b + w))) (F8_tryGroup n (nI h) (nI a) (nI b) (nI w)) := by
  rcases (by omega : h = 0 ∨ h = 1 ∨ h = 2 ∨ h = 3 ∨ h = 4 ∨ h = 5 ∨ h = 6 ∨ h = 7 ∨ h = 8 ∨ h = 9) with rfl | rfl | rfl | rfl | rfl | rfl | rfl | rfl | rfl | rfl
  · refine gr_n (fun S hS => ?_) (fun S hS => ?_)
    · unfold sG
      simp (disch := omega) only [if_pos, if_neg, ite_true, ite_false, not_true_eq_false, Bool.false_eq_true, not_false_eq_true, eq_self, obs, ob1, ob2, obx, opx, li_0, li_1, li_2, li_3, li_4, li_5, li_6, li_7, li_8, li_9, li_10, li_14, li_16, li_20, li_21, li_24, li_25, li_32, li_44, li_48, li_57, li_60, li_64, li_81, li_84, li_99, li_100, li_101, li_108, li_111, li_115, li_116, li_120, li_140, li_255, li_500, li_999, li_1000, li_1092, li_1176, li_10000, li_100000, li_1000000, li_N, li_M, nI_add, pk_mul, pk_sub, pk_div, pk_rem, k_mod, nI_clamp, nI_leI, nI_ltI, nI_eq, qin_nI, nI_m1, nN_lt, nN_lt2, nN_le, nN_le2, nN_eq, nN_eq2, qin_nN, Option.some.injEq, Prod.mk.injEq, Sum.inl.injEq]
    · unfold F8_tryGroup
      simp (disch := omega) only [if_pos, if_neg, ite_true, ite_false, not_true_eq_false, Bool.false_eq_true, not_false_eq_true, eq_self, obs, ob1, ob2, obx, opx, li_0, li_1, li_2, li_3, li_4, li_5, li_6, li_7, li_8, li_9, li_10, li_14, li_16, li_20, li_21, li_24, li_25, li_32, li_44, li_48, li_57, li_60, li_64, li_81, li_84, li_99, li_100, li_101, li_108, li_111, li_115, li_116, li_120, li_140, li_255, li_500, li_999, li_1000, li_1092, li_1176, li_10000, li_100000, li_1000000, li_N, li_M, nI_add, pk_mul, pk_sub, pk_div, pk_rem, k_mod, nI_clamp, nI_leI, nI_ltI, nI_eq, qin_nI, nI_m1, nN_lt, nN_lt2, nN_le, nN_le2, nN_eq, nN_eq2, qin_nN, Option.some.injEq, Prod.mk.injEq, Sum.inl.injEq]
  · exact grp_1 hv hn ha hb hw
  · exact grp_2 hv hn ha hb hw
  · exact grp_3 hv hn ha hb hw
  · exact grp_4 hv hn ha hb hw
  · exact grp_5 hv hn ha hb hw
  · exact grp_6 hv hn ha hb hw
  · exact grp_7 hv hn ha hb hw
  · exact grp_8 hv hn ha hb hw
  · exact grp_9 hv hn ha hb hw
end QGQ
