/-! GROUPS OF A SCRIPT -/
def sG (n : Nat) (h x1 x2 x3 w t : Int32) (S : qSt) : Option (Int32 × qSt) := if h = 1 then (ob2 (F5_join n 13 x1 x2 w S) fun r14 S15 => if ¬ r14 = 0 then (some (0, S15)) else (some (1, S15))) else if h = 2 then (if ¬ w = 0 then (some (0, S)) else (ob2 (F5_takeAway n 13 x3 S) fun r17 S18 => if ¬ r17 = 0 then (some (0, S18)) else (some (1, S18)))) else if h = 3 then (ob2 (F5_stretch 13 x3 w S) fun r20 S21 => if ¬ r20 = 0 then (some (0, S21)) else (some (1, S21))) else if h = 4 then (if w = 0 then (B7_scriptCommandOnTrial_163 n x3 w S) else (if ¬ w = 10 then (some (0, S)) else (B7_scriptCommandOnTrial_163 n x3 w S))) else if h = 5 then (if ¬ w = 0 then (some (0, S)) else (ob2 (F5_direct 13 x1 x2 S) fun r26 S27 => if ¬ r26 = 0 then (some (0, S27)) else (some (1, S27)))) else if h = 6 then (if ¬ x1 = 0 then (some (0, S)) else (ob2 (F7_bestLengthIn n 13 S) fun r29 S30 => if (F7_isAtMost r29 t S30) = 0 then (some (0, S30)) else (some (1, S30)))) else if h = 7 then (if ¬ w = 0 then (some (0, S)) else (ob2 (F7_isOnBestWayOfTrial n x3 S) fun r32 S33 => if r32 = 0 then (some (0, S33)) else (some (1, S33)))) else if h = 8 then (if ¬ x3 = 0 then (some (0, S)) else (if 10 ≤ w then (some (0, S)) else (ob2 (F7_hasTrialWayOf n w S) fun r35 S36 => if r35 = 0 then (some (0, S36)) else (some (1, S36))))) else if h = 9 then (if ¬ x2 = 0 then (some (0, S)) else (ob2 (F7_isNearInTrial n x1 w S) fun r38 S39 => if r38 = 0 then (some (0, S39)) else (some (1, S39)))) else (some (0, S))
theorem c_sc {n g : Nat} {S : qSt} (hg : g < 100000) : F7_scriptCommandOnTrial n (nI g) S = sG n (nI (g / 10000)) (nI (g / 1000 % 10)) (nI (g / 100 % 10)) (nI (g / 100 % 100)) (nI (g % 100)) (nI (g % 1000)) S := by
  have e1 : nI g / 1000 - nI g / 1000 / 10 * 10 = nI (g / 1000 % 10) := by
    rw [show (1000 : Int32) = nI 1000 from rfl, show (10 : Int32) = nI 10 from rfl, pk_div (by omega) (by omega) (by omega), pk_rem (by omega) (by omega) (by omega)]
  have e2 : nI g / 100 - nI g / 100 / 10 * 10 = nI (g / 100 % 10) := by
    rw [show (100 : Int32) = nI 100 from rfl, show (10 : Int32) = nI 10 from rfl, pk_div (by omega) (by omega) (by omega), pk_rem (by omega) (by omega) (by omega)]
  have e3 : nI g / 100 - nI g / 100 / 100 * 100 = nI (g / 100 % 100) := by
    rw [show (100 : Int32) = nI 100 from rfl, pk_div (by omega) (by omega) (by omega), pk_rem (by omega) (by omega) (by omega)]
  have e4 : nI g / 10000 = nI (g / 10000) := by
    rw [show (10000 : Int32) = nI 10000 from rfl, pk_div (by omega) (by omega) (by omega)]
  have e5 : nI g - nI g / 100 * 100 = nI (g % 100) := by
    rw [show (100 : Int32) = nI 100 from rfl, pk_rem (by omega) (by omega) (by omega)]
  have e6 : nI g - nI g / 1000 * 1000 = nI (g % 1000) := by
    rw [show (1000 : Int32) = nI 1000 from rfl, pk_rem (by omega) (by omega) (by omega)]
  unfold F7_scriptCommandOnTrial
  rw [obs1, obs1, obs1, e1, e2, e3, e4, e5, e6]
  rfl
/-- a group does alike on both sides -/
def gOKr (T : Tn) (C M : qSt → Option (Int32 × qSt)) : Prop := ∃ r : Option Tn, (∀ T2, r = some T2 → vT T2) ∧ (∀ S, isT S 13 T → ∃ S2, C S = some (nI (isO r), S2) ∧ kp pW S S2 ∧ ∀ T2, r = some T2 → isT S2 13 T2) ∧ ∀ S, isM S 115 0 T → ∃ S2, M S = some (nI (isO r), S2) ∧ kp [111, 115, 120, 121, 122] S S2 ∧ k1 [15] S S2 ∧ ∀ T2, r = some T2 → isM S2 115 0 T2
section QGR
variable {T : Tn} {C M : qSt → Option (Int32 × qSt)}
theorem gr_n (h1 : ∀ S, isT S 13 T → C S = some (nI 0, S)) (h2 : ∀ S, isM S 115 0 T → M S = some (nI 0, S)) : gOKr T C M := ⟨none, fun T2 h => (by cases h), fun S hS => ⟨S, h1 S hS, kp_rfl, fun T2 h => (by cases h)⟩, fun S hS => ⟨S, h2 S hS, kp_rfl, k1_rfl, fun T2 h => (by cases h)⟩⟩
theorem gr_q {b : Nat} (hv : vT T) (hb : b ≤ 1) (h1 : ∀ S, isT S 13 T → ∃ S2, C S = some (nI b, S2) ∧ kp (pR 107) S S2) (h2 : ∀ S, isM S 115 0 T → ∃ S2, M S = some (nI b, S2) ∧ kp [111, 120, 121, 122] S S2 ∧ k1 [15] S S2) : gOKr T C M := by
  refine ⟨if b = 0 then none else some T, ?_, fun S hS => ?_, fun S hS => ?_⟩
  · intro T2 h
    split at h <;> cases h
    exact hv
  · obtain ⟨S2, e2, k2⟩ := h1 S hS
    refine ⟨S2, ?_, kp_mono k2 (by simp), ?_⟩
    · rw [e2]
      by_cases z : b = 0
      · rw [if_pos z, z]
        rfl
      · rw [if_neg z, show b = 1 by omega]
        rfl
    · intro T2 h
      split at h <;> cases h
      exact isT_kp hS k2 (by decide) (by decide) (by decide) (by decide) (by decide)
  · obtain ⟨S2, e2, k2, k3⟩ := h2 S hS
    refine ⟨S2, ?_, kp_mono k2 (by simp), k3, ?_⟩
    · rw [e2]
      by_cases z : b = 0
      · rw [if_pos z, z]
        rfl
      · rw [if_neg z, show b = 1 by omega]
        rfl
    · intro T2 h
      split at h <;> cases h
      exact isM_kp hS k2 (by decide)
theorem gr_c {T2 : Tn} (hv : vT T2) (h1 : ∀ S, isT S 13 T → ∃ S2, C S = some (nI 1, S2) ∧ isT S2 13 T2 ∧ kp (pT 13) S S2) (h2 : ∀ S, isM S 115 0 T → ∃ S2, M S = some (nI 1, S2) ∧ isM S2 115 0 T2 ∧ kp [115] S S2) : gOKr T C M := by
  refine ⟨some T2, ?_, fun S hS => ?_, fun S hS => ?_⟩
  · intro T3 h
    cases h
    exact hv
  · obtain ⟨S2, e2, t2, k2⟩ := h1 S hS
    refine ⟨S2, e2, kp_mono k2 (by simp), ?_⟩
    intro T3 h
    cases h
    exact t2
  · obtain ⟨S2, e2, t2, k2⟩ := h2 S hS
    refine ⟨S2, e2, kp_mono k2 (by simp), k1_kp k2 (by decide), ?_⟩
    intro T3 h
    cases h
    exact t2
end QGR
theorem nn_ne {a m : Nat} (h : ¬ a < m) (ha : a < 2 ^ 31) (hm : m < 2 ^ 31) : ∀ j, j < m → nI a ≠ nI j := fun j hj q => by
  have := nI_inj ha (by omega) q
  omega
theorem n0_ne : ∀ l, 1 ≤ l → l ≤ 99 → nI 0 ≠ nI l := fun l h1 h2 q => by
  have := nI_inj (by omega) (by omega) q
  omega
section QGP
variable {T : Tn} {n a b w : Nat}
theorem grp_1 (hv : vT T) (hn : 100000000 ≤ n) (ha : a < 10) (hb : b < 10) (hw : w < 100) : gOKr T (sG n (nI 1) (nI a) (nI b) (nI (10 * a + b)) (nI w) (nI (100 * b + w))) (F8_tryGroup n (nI 1) (nI a) (nI b) (nI w)) := by
  have h9 := hv.2.1
  have h20 := hv.2.2.1
  by_cases qa : a < T 0 0
  case neg =>
    refine gr_n (fun S hS => ?_) (fun S hS => ?_)
    · unfold sG
      simp (disch := omega) only [if_pos, if_neg, ite_true, ite_false, not_true_eq_false, Bool.false_eq_true, not_false_eq_true, eq_self, obs, ob1, ob2, obx, opx, li_0, li_1, li_2, li_3, li_4, li_5, li_6, li_7, li_8, li_9, li_10, li_14, li_16, li_20, li_21, li_24, li_25, li_32, li_44, li_48, li_57, li_60, li_64, li_81, li_84, li_99, li_100, li_101, li_108, li_111, li_115, li_116, li_120, li_140, li_255, li_500, li_999, li_1000, li_1092, li_1176, li_10000, li_100000, li_1000000, li_N, li_M, nI_add, pk_mul, pk_sub, pk_div, pk_rem, k_mod, nI_clamp, nI_leI, nI_ltI, nI_eq, qin_nI, nI_m1, nN_lt, nN_lt2, nN_le, nN_le2, nN_eq, nN_eq2, qin_nN, Option.some.injEq, Prod.mk.injEq, Sum.inl.injEq, c_join_1 (n := n) (y := nI b) (z := nI w) hS hv (Or.inl (nn_ne qa (by omega) (by omega)))]
    · unfold F8_tryGroup
      simp (disch := omega) only [if_pos, if_neg, ite_true, ite_false, not_true_eq_false, Bool.false_eq_true, not_false_eq_true, eq_self, obs, ob1, ob2, obx, opx, li_0, li_1, li_2, li_3, li_4, li_5, li_6, li_7, li_8, li_9, li_10, li_14, li_16, li_20, li_21, li_24, li_25, li_32, li_44, li_48, li_57, li_60, li_64, li_81, li_84, li_99, li_100, li_101, li_108, li_111, li_115, li_116, li_120, li_140, li_255, li_500, li_999, li_1000, li_1092, li_1176, li_10000, li_100000, li_1000000, li_N, li_M, nI_add, pk_mul, pk_sub, pk_div, pk_rem, k_mod, nI_clamp, nI_leI, nI_ltI, nI_eq, qin_nI, nI_m1, nN_lt, nN_lt2, nN_le, nN_le2, nN_eq, nN_eq2, qin_nN, Option.some.injEq, Prod.mk.injEq, Sum.inl.injEq, m_wnb_1 (n := n) (y := nI b) (z := nI w) kr_115 hS hv (Or.inl (nn_ne qa (by omega) (by omega)))]
  by_cases qb : b < T 0 0
  case neg =>
    refine gr_n (fun S hS => ?_) (fun S hS => ?_)
    · unfold sG
      simp (disch := omega) only [if_pos, if_neg, ite_true, ite_false, not_true_eq_false, Bool.false_eq_true, not_false_eq_true, eq_self, obs, ob1, ob2, obx, opx, li_0, li_1, li_2, li_3, li_4, li_5, li_6, li_7, li_8, li_9, li_10, li_14, li_16, li_20, li_21, li_24, li_25, li_32, li_44, li_48, li_57, li_60, li_64, li_81, li_84, li_99, li_100, li_101, li_108, li_111, li_115, li_116, li_120, li_140, li_255, li_500, li_999, li_1000, li_1092, li_1176, li_10000, li_100000, li_1000000, li_N, li_M, nI_add, pk_mul, pk_sub, pk_div, pk_rem, k_mod, nI_clamp, nI_leI, nI_ltI, nI_eq, qin_nI, nI_m1, nN_lt, nN_lt2, nN_le, nN_le2, nN_eq, nN_eq2, qin_nN, Option.some.injEq, Prod.mk.injEq, Sum.inl.injEq, c_join_1 (n := n) (x := nI a) (z := nI w) hS hv (Or.inr (nn_ne qb (by omega) (by omega)))]
    · unfold F8_tryGroup
      simp (disch := omega) only [if_pos, if_neg, ite_true, ite_false, not_true_eq_false, Bool.false_eq_true, not_false_eq_true, eq_self, obs, ob1, ob2, obx, opx, li_0, li_1, li_2, li_3, li_4, li_5, li_6, li_7, li_8, li_9, li_10, li_14, li_16, li_20, li_21, li_24, li_25, li_32, li_44, li_48, li_57, li_60, li_64, li_81, li_84, li_99, li_100, li_101, li_108, li_111, li_115, li_116, li_120, li_140, li_255, li_500, li_999, li_1000, li_1092, li_1176, li_10000, li_100000, li_1000000, li_N, li_M, nI_add, pk_mul, pk_sub, pk_div, pk_rem, k_mod, nI_clamp, nI_leI, nI_ltI, nI_eq, qin_nI, nI_m1, nN_lt, nN_lt2, nN_le, nN_le2, nN_eq, nN_eq2, qin_nN, Option.some.injEq, Prod.mk.injEq, Sum.inl.injEq, m_wnb_1 (n := n) (x := nI a) (z := nI w) kr_115 hS hv (Or.inr (nn_ne qb (by omega) (by omega)))]
  by_cases qab : a = b
  · subst qab
    refine gr_n (fun S hS => ?_) (fun S hS => ?_)
    · unfold sG
      simp (disch := omega) only [if_pos, if_neg, ite_true, ite_false, not_true_eq_false, Bool.false_eq_true, not_false_eq_true, eq_self, obs, ob1, ob2, obx, opx, li_0, li_1, li_2, li_3, li_4, li_5, li_6, li_7, li_8, li_9, li_10, li_14, li_16, li_20, li_21, li_24, li_25, li_32, li_44, li_48, li_57, li_60, li_64, li_81, li_84, li_99, li_100, li_101, li_108, li_111, li_115, li_116, li_120, li_140, li_255, li_500, li_999, li_1000, li_1092, li_1176, li_10000, li_100000, li_1000000, li_N, li_M, nI_add, pk_mul, pk_sub, pk_div, pk_rem, k_mod, nI_clamp, nI_leI, nI_ltI, nI_eq, qin_nI, nI_m1, nN_lt, nN_lt2, nN_le, nN_le2, nN_eq, nN_eq2, qin_nN, Option.some.injEq, Prod.mk.injEq, Sum.inl.injEq, c_join_2 (n := n) (z := nI w) hS hv qa]
    · unfold F8_tryGroup
      simp (disch := omega) only [if_pos, if_neg, ite_true, ite_false, not_true_eq_false, Bool.false_eq_true, not_false_eq_true, eq_self, obs, ob1, ob2, obx, opx, li_0, li_1, li_2, li_3, li_4, li_5, li_6, li_7, li_8, li_9, li_10, li_14, li_16, li_20, li_21, li_24, li_25, li_32, li_44, li_48, li_57, li_60, li_64, li_81, li_84, li_99, li_100, li_101, li_108, li_111, li_115, li_116, li_120, li_140, li_255, li_500, li_999, li_1000, li_1092, li_1176, li_10000, li_100000, li_1000000, li_N, li_M, nI_add, pk_mul, pk_sub, pk_div, pk_rem, k_mod, nI_clamp, nI_leI, nI_ltI, nI_eq, qin_nI, nI_m1, nN_lt, nN_lt2, nN_le, nN_le2, nN_eq, nN_eq2, qin_nN, Option.some.injEq, Prod.mk.injEq, Sum.inl.injEq, m_wnb_2 (n := n) (z := nI w) kr_115 hS hv qa]
  by_cases qw : w = 0
  · subst qw
    refine gr_n (fun S hS => ?_) (fun S hS => ?_)
    · unfold sG
      simp (disch := omega) only [if_pos, if_neg, ite_true, ite_false, not_true_eq_false, Bool.false_eq_true, not_false_eq_true, eq_self, obs, ob1, ob2, obx, opx, li_0, li_1, li_2, li_3, li_4, li_5, li_6, li_7, li_8, li_9, li_10, li_14, li_16, li_20, li_21, li_24, li_25, li_32, li_44, li_48, li_57, li_60, li_64, li_81, li_84, li_99, li_100, li_101, li_108, li_111, li_115, li_116, li_120, li_140, li_255, li_500, li_999, li_1000, li_1092, li_1176, li_10000, li_100000, li_1000000, li_N, li_M, nI_add, pk_mul, pk_sub, pk_div, pk_rem, k_mod, nI_clamp, nI_leI, nI_ltI, nI_eq, qin_nI, nI_m1, nN_lt, nN_lt2, nN_le, nN_le2, nN_eq, nN_eq2, qin_nN, Option.some.injEq, Prod.mk.injEq, Sum.inl.injEq, c_join_l (n := n) hS hv qa qb qab n0_ne]
    · unfold F8_tryGroup
      simp (disch := omega) only [if_pos, if_neg, ite_true, ite_false, not_true_eq_false, Bool.false_eq_true, not_false_eq_true, eq_self, obs, ob1, ob2, obx, opx, li_0, li_1, li_2, li_3, li_4, li_5, li_6, li_7, li_8, li_9, li_10, li_14, li_16, li_20, li_21, li_24, li_25, li_32, li_44, li_48, li_57, li_60, li_64, li_81, li_84, li_99, li_100, li_101, li_108, li_111, li_115, li_116, li_120, li_140, li_255, li_500, li_999, li_1000, li_1092, li_1176, li_10000, li_100000, li_1000000, li_N, li_M, nI_add, pk_mul, pk_sub, pk_div, pk_rem, k_mod, nI_clamp, nI_leI, nI_ltI, nI_eq, qin_nI, nI_m1, nN_lt, nN_lt2, nN_le, nN_le2, nN_eq, nN_eq2, qin_nN, Option.some.injEq, Prod.mk.injEq, Sum.inl.injEq, m_wnb_l (n := n) kr_115 hS hv qa qb qab n0_ne]
  by_cases full : 20 ≤ T 0 1 ∨ tj T a b ≠ nN
  · refine gr_n (fun S hS => ?_) (fun S hS => ?_)
    · unfold sG
      simp (disch := omega) only [if_pos, if_neg, ite_true, ite_false, not_true_eq_false, Bool.false_eq_true, not_false_eq_true, eq_self, obs, ob1, ob2, obx, opx, li_0, li_1, li_2, li_3, li_4, li_5, li_6, li_7, li_8, li_9, li_10, li_14, li_16, li_20, li_21, li_24, li_25, li_32, li_44, li_48, li_57, li_60, li_64, li_81, li_84, li_99, li_100, li_101, li_108, li_111, li_115, li_116, li_120, li_140, li_255, li_500, li_999, li_1000, li_1092, li_1176, li_10000, li_100000, li_1000000, li_N, li_M, nI_add, pk_mul, pk_sub, pk_div, pk_rem, k_mod, nI_clamp, nI_leI, nI_ltI, nI_eq, qin_nI, nI_m1, nN_lt, nN_lt2, nN_le, nN_le2, nN_eq, nN_eq2, qin_nN, Option.some.injEq, Prod.mk.injEq, Sum.inl.injEq, c_join_3 (n := n) (l := w) hS hv (by omega : 20 ≤ 21) qa qb qab (by omega) (by omega) full (by omega)]
    · have e := m_wnb_3 (n := n) (l := w) kr_115 hS hv qa qb qab (by omega) (by omega) (by omega)
      rw [if_pos full] at e
      unfold F8_tryGroup
      simp (disch := omega) only [if_pos, if_neg, ite_true, ite_false, not_true_eq_false, Bool.false_eq_true, not_false_eq_true, eq_self, obs, ob1, ob2, obx, opx, li_0, li_1, li_2, li_3, li_4, li_5, li_6, li_7, li_8, li_9, li_10, li_14, li_16, li_20, li_21, li_24, li_25, li_32, li_44, li_48, li_57, li_60, li_64, li_81, li_84, li_99, li_100, li_101, li_108, li_111, li_115, li_116, li_120, li_140, li_255, li_500, li_999, li_1000, li_1092, li_1176, li_10000, li_100000, li_1000000, li_N, li_M, nI_add, pk_mul, pk_sub, pk_div, pk_rem, k_mod, nI_clamp, nI_leI, nI_ltI, nI_eq, qin_nI, nI_m1, nN_lt, nN_lt2, nN_le, nN_le2, nN_eq, nN_eq2, qin_nN, Option.some.injEq, Prod.mk.injEq, Sum.inl.injEq, e]
  · have hj : tj T a b = nN := Classical.byContradiction fun q => full (Or.inr q)
    refine gr_c (T2 := tA T a b w) (vK_add hv (by omega) (show T 0 1 < 20 by omega) qa qb qab (by omega) (by omega) hj) (fun S hS => ?_) (fun S hS => ?_)
    · obtain ⟨S2, e2, t2, k2⟩ := c_join_0 (n := n) (l := w) hS hv (by omega) qa qb qab (by omega) (by omega) (by omega) hj (by omega)
      refine ⟨S2, ?_, t2, k2⟩
      unfold sG
      simp (disch := omega) only [if_pos, if_neg, ite_true, ite_false, not_true_eq_false, Bool.false_eq_true, not_false_eq_true, eq_self, obs, ob1, ob2, obx, opx, li_0, li_1, li_2, li_3, li_4, li_5, li_6, li_7, li_8, li_9, li_10, li_14, li_16, li_20, li_21, li_24, li_25, li_32, li_44, li_48, li_57, li_60, li_64, li_81, li_84, li_99, li_100, li_101, li_108, li_111, li_115, li_116, li_120, li_140, li_255, li_500, li_999, li_1000, li_1092, li_1176, li_10000, li_100000, li_1000000, li_N, li_M, nI_add, pk_mul, pk_sub, pk_div, pk_rem, k_mod, nI_clamp, nI_leI, nI_ltI, nI_eq, qin_nI, nI_m1, nN_lt, nN_lt2, nN_le, nN_le2, nN_eq, nN_eq2, qin_nN, Option.some.injEq, Prod.mk.injEq, Sum.inl.injEq, e2]
    · have e := m_wnb_3 (n := n) (l := w) kr_115 hS hv qa qb qab (by omega) (by omega) (by omega)
      rw [if_neg full] at e
      obtain ⟨S2, e2, t2, k2⟩ := m_build (a := a) (b := b) (l := w) kr_115 hS (by omega)
      refine ⟨S2, ?_, t2, k2⟩
      unfold F8_tryGroup
      simp (disch := omega) only [if_pos, if_neg, ite_true, ite_false, not_true_eq_false, Bool.false_eq_true, not_false_eq_true, eq_self, obs, ob1, ob2, obx, opx, li_0, li_1, li_2, li_3, li_4, li_5, li_6, li_7, li_8, li_9, li_10, li_14, li_16, li_20, li_21, li_24, li_25, li_32, li_44, li_48, li_57, li_60, li_64, li_81, li_84, li_99, li_100, li_101, li_108, li_111, li_115, li_116, li_120, li_140, li_255, li_500, li_999, li_1000, li_1092, li_1176, li_10000, li_100000, li_1000000, li_N, li_M, nI_add, pk_mul, pk_sub, pk_div, pk_rem, k_mod, nI_clamp, nI_leI, nI_ltI, nI_eq, qin_nI, nI_m1, nN_lt, nN_lt2, nN_le, nN_le2, nN_eq, nN_eq2, qin_nN, Option.some.injEq, Prod.mk.injEq, Sum.inl.injEq, e, e2]
theorem grp_2 (hv : vT T) (hn : 100000000 ≤ n) (ha : a < 10) (hb : b < 10) (hw : w < 100) : gOKr T (sG n (nI 2) (nI a) (nI b) (nI (10 * a + b)) (nI w) (nI (100 * b + w))) (F8_tryGroup n (nI 2) (nI a) (nI b) (nI w)) := by
  have h20 := hv.2.2.1
  by_cases qw : w = 0
  case neg =>
    refine gr_n (fun S hS => ?_) (fun S hS => ?_)
    · unfold sG
      simp (disch := omega) only [if_pos, if_neg, ite_true, ite_false, not_true_eq_false, Bool.false_eq_true, not_false_eq_true, eq_self, obs, ob1, ob2, obx, opx, li_0, li_1, li_2, li_3, li_4, li_5, li_6, li_7, li_8, li_9, li_10, li_14, li_16, li_20, li_21, li_24, li_25, li_32, li_44, li_48, li_57, li_60, li_64, li_81, li_84, li_99, li_100, li_101, li_108, li_111, li_115, li_116, li_120, li_140, li_255, li_500, li_999, li_1000, li_1092, li_1176, li_10000, li_100000, li_1000000, li_N, li_M, nI_add, pk_mul, pk_sub, pk_div, pk_rem, k_mod, nI_clamp, nI_leI, nI_ltI, nI_eq, qin_nI, nI_m1, nN_lt, nN_lt2, nN_le, nN_le2, nN_eq, nN_eq2, qin_nN, Option.some.injEq, Prod.mk.injEq, Sum.inl.injEq]
    · unfold F8_tryGroup
      simp (disch := omega) only [if_pos, if_neg, ite_true, ite_false, not_true_eq_false, Bool.false_eq_true, not_false_eq_true, eq_self, obs, ob1, ob2, obx, opx, li_0, li_1, li_2, li_3, li_4, li_5, li_6, li_7, li_8, li_9, li_10, li_14, li_16, li_20, li_21, li_24, li_25, li_32, li_44, li_48, li_57, li_60, li_64, li_81, li_84, li_99, li_100, li_101, li_108, li_111, li_115, li_116, li_120, li_140, li_255, li_500, li_999, li_1000, li_1092, li_1176, li_10000, li_100000, li_1000000, li_N, li_M, nI_add, pk_mul, pk_sub, pk_div, pk_rem, k_mod, nI_clamp, nI_leI, nI_ltI, nI_eq, qin_nI, nI_m1, nN_lt, nN_lt2, nN_le, nN_le2, nN_eq, nN_eq2, qin_nN, Option.some.injEq, Prod.mk.injEq, Sum.inl.injEq]
  subst qw
  by_cases qs : 10 * a + b < T 0 1
  · refine gr_c (T2 := tR T (10 * a + b)) (vK_rem hv qs) (fun S hS => ?_) (fun S hS => ?_)
    · obtain ⟨S2, e2, t2, k2⟩ := c_ta_y (n := n) hS hv (by omega) qs (by omega)
      refine ⟨S2, ?_, t2, k2⟩
      unfold sG
      simp (disch := omega) only [if_pos, if_neg, ite_true, ite_false, not_true_eq_false, Bool.false_eq_true, not_false_eq_true, eq_self, obs, ob1, ob2, obx, opx, li_0, li_1, li_2, li_3, li_4, li_5, li_6, li_7, li_8, li_9, li_10, li_14, li_16, li_20, li_21, li_24, li_25, li_32, li_44, li_48, li_57, li_60, li_64, li_81, li_84, li_99, li_100, li_101, li_108, li_111, li_115, li_116, li_120, li_140, li_255, li_500, li_999, li_1000, li_1092, li_1176, li_10000, li_100000, li_1000000, li_N, li_M, nI_add, pk_mul, pk_sub, pk_div, pk_rem, k_mod, nI_clamp, nI_leI, nI_ltI, nI_eq, qin_nI, nI_m1, nN_lt, nN_lt2, nN_le, nN_le2, nN_eq, nN_eq2, qin_nN, Option.some.injEq, Prod.mk.injEq, Sum.inl.injEq, e2]
    · obtain ⟨S2, e2, t2, k2⟩ := m_td (n := n) kr_115 hS hv qs (by omega)
      refine ⟨S2, ?_, t2, k2⟩
      unfold F8_tryGroup
      simp (disch := omega) only [if_pos, if_neg, ite_true, ite_false, not_true_eq_false, Bool.false_eq_true, not_false_eq_true, eq_self, obs, ob1, ob2, obx, opx, li_0, li_1, li_2, li_3, li_4, li_5, li_6, li_7, li_8, li_9, li_10, li_14, li_16, li_20, li_21, li_24, li_25, li_32, li_44, li_48, li_57, li_60, li_64, li_81, li_84, li_99, li_100, li_101, li_108, li_111, li_115, li_116, li_120, li_140, li_255, li_500, li_999, li_1000, li_1092, li_1176, li_10000, li_100000, li_1000000, li_N, li_M, nI_add, pk_mul, pk_sub, pk_div, pk_rem, k_mod, nI_clamp, nI_leI, nI_ltI, nI_eq, qin_nI, nI_m1, nN_lt, nN_lt2, nN_le, nN_le2, nN_eq, nN_eq2, qin_nN, Option.some.injEq, Prod.mk.injEq, Sum.inl.injEq, m_isS_y kr_115 hS.2.1 (by omega) qs, e2]
  · refine gr_n (fun S hS => ?_) (fun S hS => ?_)
    · unfold sG
      simp (disch := omega) only [if_pos, if_neg, ite_true, ite_false, not_true_eq_false, Bool.false_eq_true, not_false_eq_true, eq_self, obs, ob1, ob2, obx, opx, li_0, li_1, li_2, li_3, li_4, li_5, li_6, li_7, li_8, li_9, li_10, li_14, li_16, li_20, li_21, li_24, li_25, li_32, li_44, li_48, li_57, li_60, li_64, li_81, li_84, li_99, li_100, li_101, li_108, li_111, li_115, li_116, li_120, li_140, li_255, li_500, li_999, li_1000, li_1092, li_1176, li_10000, li_100000, li_1000000, li_N, li_M, nI_add, pk_mul, pk_sub, pk_div, pk_rem, k_mod, nI_clamp, nI_leI, nI_ltI, nI_eq, qin_nI, nI_m1, nN_lt, nN_lt2, nN_le, nN_le2, nN_eq, nN_eq2, qin_nN, Option.some.injEq, Prod.mk.injEq, Sum.inl.injEq, c_ta_n (n := n) hS hv (by omega : 20 ≤ 21) (nn_ne qs (by omega) (by omega))]
    · unfold F8_tryGroup
      simp (disch := omega) only [if_pos, if_neg, ite_true, ite_false, not_true_eq_false, Bool.false_eq_true, not_false_eq_true, eq_self, obs, ob1, ob2, obx, opx, li_0, li_1, li_2, li_3, li_4, li_5, li_6, li_7, li_8, li_9, li_10, li_14, li_16, li_20, li_21, li_24, li_25, li_32, li_44, li_48, li_57, li_60, li_64, li_81, li_84, li_99, li_100, li_101, li_108, li_111, li_115, li_116, li_120, li_140, li_255, li_500, li_999, li_1000, li_1092, li_1176, li_10000, li_100000, li_1000000, li_N, li_M, nI_add, pk_mul, pk_sub, pk_div, pk_rem, k_mod, nI_clamp, nI_leI, nI_ltI, nI_eq, qin_nI, nI_m1, nN_lt, nN_lt2, nN_le, nN_le2, nN_eq, nN_eq2, qin_nN, Option.some.injEq, Prod.mk.injEq, Sum.inl.injEq, m_isS_n kr_115 hS.2.1 (by omega) (nn_ne qs (by omega) (by omega))]
theorem grp_3 (hv : vT T) (hn : 100000000 ≤ n) (ha : a < 10) (hb : b < 10) (hw : w < 100) : gOKr T (sG n (nI 3) (nI a) (nI b) (nI (10 * a + b)) (nI w) (nI (100 * b + w))) (F8_tryGroup n (nI 3) (nI a) (nI b) (nI w)) := by
  have h20 := hv.2.2.1
  by_cases qs : 10 * a + b < T 0 1
  · by_cases qw : w = 0
    · subst qw
      refine gr_n (fun S hS => ?_) (fun S hS => ?_)
      · unfold sG
        simp (disch := omega) only [if_pos, if_neg, ite_true, ite_false, not_true_eq_false, Bool.false_eq_true, not_false_eq_true, eq_self, obs, ob1, ob2, obx, opx, li_0, li_1, li_2, li_3, li_4, li_5, li_6, li_7, li_8, li_9, li_10, li_14, li_16, li_20, li_21, li_24, li_25, li_32, li_44, li_48, li_57, li_60, li_64, li_81, li_84, li_99, li_100, li_101, li_108, li_111, li_115, li_116, li_120, li_140, li_255, li_500, li_999, li_1000, li_1092, li_1176, li_10000, li_100000, li_1000000, li_N, li_M, nI_add, pk_mul, pk_sub, pk_div, pk_rem, k_mod, nI_clamp, nI_leI, nI_ltI, nI_eq, qin_nI, nI_m1, nN_lt, nN_lt2, nN_le, nN_le2, nN_eq, nN_eq2, qin_nN, Option.some.injEq, Prod.mk.injEq, Sum.inl.injEq, c_str_l hS hv (by omega : 20 ≤ 21) qs n0_ne]
      · unfold F8_tryGroup
        simp (disch := omega) only [if_pos, if_neg, ite_true, ite_false, not_true_eq_false, Bool.false_eq_true, not_false_eq_true, eq_self, obs, ob1, ob2, obx, opx, li_0, li_1, li_2, li_3, li_4, li_5, li_6, li_7, li_8, li_9, li_10, li_14, li_16, li_20, li_21, li_24, li_25, li_32, li_44, li_48, li_57, li_60, li_64, li_81, li_84, li_99, li_100, li_101, li_108, li_111, li_115, li_116, li_120, li_140, li_255, li_500, li_999, li_1000, li_1092, li_1176, li_10000, li_100000, li_1000000, li_N, li_M, nI_add, pk_mul, pk_sub, pk_div, pk_rem, k_mod, nI_clamp, nI_leI, nI_ltI, nI_eq, qin_nI, nI_m1, nN_lt, nN_lt2, nN_le, nN_le2, nN_eq, nN_eq2, qin_nN, Option.some.injEq, Prod.mk.injEq, Sum.inl.injEq, m_isS_y kr_115 hS.2.1 (by omega) qs]
    · refine gr_c (T2 := tU T 3 (10 * a + b) w) (vK_str hv (by omega) (by omega)) (fun S hS => ?_) (fun S hS => ?_)
      · obtain ⟨S2, e2, t2, k2⟩ := c_str_y (l := w) hS hv (by omega) qs (by omega) (by omega)
        refine ⟨S2, ?_, t2, k2⟩
        unfold sG
        simp (disch := omega) only [if_pos, if_neg, ite_true, ite_false, not_true_eq_false, Bool.false_eq_true, not_false_eq_true, eq_self, obs, ob1, ob2, obx, opx, li_0, li_1, li_2, li_3, li_4, li_5, li_6, li_7, li_8, li_9, li_10, li_14, li_16, li_20, li_21, li_24, li_25, li_32, li_44, li_48, li_57, li_60, li_64, li_81, li_84, li_99, li_100, li_101, li_108, li_111, li_115, li_116, li_120, li_140, li_255, li_500, li_999, li_1000, li_1092, li_1176, li_10000, li_100000, li_1000000, li_N, li_M, nI_add, pk_mul, pk_sub, pk_div, pk_rem, k_mod, nI_clamp, nI_leI, nI_ltI, nI_eq, qin_nI, nI_m1, nN_lt, nN_lt2, nN_le, nN_le2, nN_eq, nN_eq2, qin_nN, Option.some.injEq, Prod.mk.injEq, Sum.inl.injEq, e2]
      · have t2 := isM_st (x := 3) hS (Or.inl rfl) (by omega) qs w
        rw [if_pos rfl] at t2
        refine ⟨_, ?_, t2, kp_up kp_rfl (by simp)⟩
        unfold F8_tryGroup
        simp (disch := omega) only [if_pos, if_neg, ite_true, ite_false, not_true_eq_false, Bool.false_eq_true, not_false_eq_true, eq_self, obs, ob1, ob2, obx, opx, li_0, li_1, li_2, li_3, li_4, li_5, li_6, li_7, li_8, li_9, li_10, li_14, li_16, li_20, li_21, li_24, li_25, li_32, li_44, li_48, li_57, li_60, li_64, li_81, li_84, li_99, li_100, li_101, li_108, li_111, li_115, li_116, li_120, li_140, li_255, li_500, li_999, li_1000, li_1092, li_1176, li_10000, li_100000, li_1000000, li_N, li_M, nI_add, pk_mul, pk_sub, pk_div, pk_rem, k_mod, nI_clamp, nI_leI, nI_ltI, nI_eq, qin_nI, nI_m1, nN_lt, nN_lt2, nN_le, nN_le2, nN_eq, nN_eq2, qin_nN, Option.some.injEq, Prod.mk.injEq, Sum.inl.injEq, m_isS_y kr_115 hS.2.1 (by omega) qs]
  · refine gr_n (fun S hS => ?_) (fun S hS => ?_)
    · unfold sG
      simp (disch := omega) only [if_pos, if_neg, ite_true, ite_false, not_true_eq_false, Bool.false_eq_true, not_false_eq_true, eq_self, obs, ob1, ob2, obx, opx, li_0, li_1, li_2, li_3, li_4, li_5, li_6, li_7, li_8, li_9, li_10, li_14, li_16, li_20, li_21, li_24, li_25, li_32, li_44, li_48, li_57, li_60, li_64, li_81, li_84, li_99, li_100, li_101, li_108, li_111, li_115, li_116, li_120, li_140, li_255, li_500, li_999, li_1000, li_1092, li_1176, li_10000, li_100000, li_1000000, li_N, li_M, nI_add, pk_mul, pk_sub, pk_div, pk_rem, k_mod, nI_clamp, nI_leI, nI_ltI, nI_eq, qin_nI, nI_m1, nN_lt, nN_lt2, nN_le, nN_le2, nN_eq, nN_eq2, qin_nN, Option.some.injEq, Prod.mk.injEq, Sum.inl.injEq, c_str_n (y := nI w) hS hv (by omega : 20 ≤ 21) (nn_ne qs (by omega) (by omega))]
    · unfold F8_tryGroup
      simp (disch := omega) only [if_pos, if_neg, ite_true, ite_false, not_true_eq_false, Bool.false_eq_true, not_false_eq_true, eq_self, obs, ob1, ob2, obx, opx, li_0, li_1, li_2, li_3, li_4, li_5, li_6, li_7, li_8, li_9, li_10, li_14, li_16, li_20, li_21, li_24, li_25, li_32, li_44, li_48, li_57, li_60, li_64, li_81, li_84, li_99, li_100, li_101, li_108, li_111, li_115, li_116, li_120, li_140, li_255, li_500, li_999, li_1000, li_1092, li_1176, li_10000, li_100000, li_1000000, li_N, li_M, nI_add, pk_mul, pk_sub, pk_div, pk_rem, k_mod, nI_clamp, nI_leI, nI_ltI, nI_eq, qin_nI, nI_m1, nN_lt, nN_lt2, nN_le, nN_le2, nN_eq, nN_eq2, qin_nN, Option.some.injEq, Prod.mk.injEq, Sum.inl.injEq, m_isS_n kr_115 hS.2.1 (by omega) (nn_ne qs (by omega) (by omega))]
theorem grp_4 (hv : vT T) (hn : 100000000 ≤ n) (ha : a < 10) (hb : b < 10) (hw : w < 100) : gOKr T (sG n (nI 4) (nI a) (nI b) (nI (10 * a + b)) (nI w) (nI (100 * b + w))) (F8_tryGroup n (nI 4) (nI a) (nI b) (nI w)) := by
  have h20 := hv.2.2.1
  by_cases qw : w = 0 ∨ w = 10
  · by_cases qs : 10 * a + b < T 0 1
    · refine gr_c (T2 := tU T 4 (10 * a + b) (w / 10)) (vK_shut hv (by omega)) (fun S hS => ?_) (fun S hS => ?_)
      · obtain ⟨S2, e2, t2, k2⟩ := c_shut_y (b := w / 10) hS hv (by omega) qs (by omega)
        refine ⟨S2, ?_, t2, k2⟩
        unfold sG B7_scriptCommandOnTrial_163 B7_scriptCommandOnTrial_181
        rcases qw with rfl | rfl
        · have e3 : F5_shut 13 (nI (10 * a + b)) (nI 0) S = some (nI 0, S2) := e2
          simp (disch := omega) only [if_pos, if_neg, ite_true, ite_false, not_true_eq_false, Bool.false_eq_true, not_false_eq_true, eq_self, obs, ob1, ob2, obx, opx, li_0, li_1, li_2, li_3, li_4, li_5, li_6, li_7, li_8, li_9, li_10, li_14, li_16, li_20, li_21, li_24, li_25, li_32, li_44, li_48, li_57, li_60, li_64, li_81, li_84, li_99, li_100, li_101, li_108, li_111, li_115, li_116, li_120, li_140, li_255, li_500, li_999, li_1000, li_1092, li_1176, li_10000, li_100000, li_1000000, li_N, li_M, nI_add, pk_mul, pk_sub, pk_div, pk_rem, k_mod, nI_clamp, nI_leI, nI_ltI, nI_eq, qin_nI, nI_m1, nN_lt, nN_lt2, nN_le, nN_le2, nN_eq, nN_eq2, qin_nN, Option.some.injEq, Prod.mk.injEq, Sum.inl.injEq, e3]
        · have e3 : F5_shut 13 (nI (10 * a + b)) (nI 1) S = some (nI 0, S2) := e2
          simp (disch := omega) only [if_pos, if_neg, ite_true, ite_false, not_true_eq_false, Bool.false_eq_true, not_false_eq_true, eq_self, obs, ob1, ob2, obx, opx, li_0, li_1, li_2, li_3, li_4, li_5, li_6, li_7, li_8, li_9, li_10, li_14, li_16, li_20, li_21, li_24, li_25, li_32, li_44, li_48, li_57, li_60, li_64, li_81, li_84, li_99, li_100, li_101, li_108, li_111, li_115, li_116, li_120, li_140, li_255, li_500, li_999, li_1000, li_1092, li_1176, li_10000, li_100000, li_1000000, li_N, li_M, nI_add, pk_mul, pk_sub, pk_div, pk_rem, k_mod, nI_clamp, nI_leI, nI_ltI, nI_eq, qin_nI, nI_m1, nN_lt, nN_lt2, nN_le, nN_le2, nN_eq, nN_eq2, qin_nN, Option.some.injEq, Prod.mk.injEq, Sum.inl.injEq, e3]
      · have t2 := isM_st (x := 4) hS (Or.inr rfl) (by omega) qs (w / 10)
        rw [if_neg (by omega)] at t2
        refine ⟨_, ?_, t2, kp_up kp_rfl (by simp)⟩
        unfold F8_tryGroup B8_tryGroup_191
        rcases qw with rfl | rfl
        · simp (disch := omega) only [if_pos, if_neg, ite_true, ite_false, not_true_eq_false, Bool.false_eq_true, not_false_eq_true, eq_self, obs, ob1, ob2, obx, opx, li_0, li_1, li_2, li_3, li_4, li_5, li_6, li_7, li_8, li_9, li_10, li_14, li_16, li_20, li_21, li_24, li_25, li_32, li_44, li_48, li_57, li_60, li_64, li_81, li_84, li_99, li_100, li_101, li_108, li_111, li_115, li_116, li_120, li_140, li_255, li_500, li_999, li_1000, li_1092, li_1176, li_10000, li_100000, li_1000000, li_N, li_M, nI_add, pk_mul, pk_sub, pk_div, pk_rem, k_mod, nI_clamp, nI_leI, nI_ltI, nI_eq, qin_nI, nI_m1, nN_lt, nN_lt2, nN_le, nN_le2, nN_eq, nN_eq2, qin_nN, Option.some.injEq, Prod.mk.injEq, Sum.inl.injEq, m_isS_y kr_115 hS.2.1 (by omega) qs]
        · simp (disch := omega) only [if_pos, if_neg, ite_true, ite_false, not_true_eq_false, Bool.false_eq_true, not_false_eq_true, eq_self, obs, ob1, ob2, obx, opx, li_0, li_1, li_2, li_3, li_4, li_5, li_6, li_7, li_8, li_9, li_10, li_14, li_16, li_20, li_21, li_24, li_25, li_32, li_44, li_48, li_57, li_60, li_64, li_81, li_84, li_99, li_100, li_101, li_108, li_111, li_115, li_116, li_120, li_140, li_255, li_500, li_999, li_1000, li_1092, li_1176, li_10000, li_100000, li_1000000, li_N, li_M, nI_add, pk_mul, pk_sub, pk_div, pk_rem, k_mod, nI_clamp, nI_leI, nI_ltI, nI_eq, qin_nI, nI_m1, nN_lt, nN_lt2, nN_le, nN_le2, nN_eq, nN_eq2, qin_nN, Option.some.injEq, Prod.mk.injEq, Sum.inl.injEq, m_isS_y kr_115 hS.2.1 (by omega) qs]
    · refine gr_n (fun S hS => ?_) (fun S hS => ?_)
      · have e0 := c_shut_n (b := nI 0) hS hv (by omega : 20 ≤ 21) (nn_ne qs (by omega) (by omega))
        have e1 := c_shut_n (b := nI 1) hS hv (by omega : 20 ≤ 21) (nn_ne qs (by omega) (by omega))
        unfold sG B7_scriptCommandOnTrial_163 B7_scriptCommandOnTrial_181
        rcases qw with rfl | rfl
        · simp (disch := omega) only [if_pos, if_neg, ite_true, ite_false, not_true_eq_false, Bool.false_eq_true, not_false_eq_true, eq_self, obs, ob1, ob2, obx, opx, li_0, li_1, li_2, li_3, li_4, li_5, li_6, li_7, li_8, li_9, li_10, li_14, li_16, li_20, li_21, li_24, li_25, li_32, li_44, li_48, li_57, li_60, li_64, li_81, li_84, li_99, li_100, li_101, li_108, li_111, li_115, li_116, li_120, li_140, li_255, li_500, li_999, li_1000, li_1092, li_1176, li_10000, li_100000, li_1000000, li_N, li_M, nI_add, pk_mul, pk_sub, pk_div, pk_rem, k_mod, nI_clamp, nI_leI, nI_ltI, nI_eq, qin_nI, nI_m1, nN_lt, nN_lt2, nN_le, nN_le2, nN_eq, nN_eq2, qin_nN, Option.some.injEq, Prod.mk.injEq, Sum.inl.injEq, e0]
        · simp (disch := omega) only [if_pos, if_neg, ite_true, ite_false, not_true_eq_false, Bool.false_eq_true, not_false_eq_true, eq_self, obs, ob1, ob2, obx, opx, li_0, li_1, li_2, li_3, li_4, li_5, li_6, li_7, li_8, li_9, li_10, li_14, li_16, li_20, li_21, li_24, li_25, li_32, li_44, li_48, li_57, li_60, li_64, li_81, li_84, li_99, li_100, li_101, li_108, li_111, li_115, li_116, li_120, li_140, li_255, li_500, li_999, li_1000, li_1092, li_1176, li_10000, li_100000, li_1000000, li_N, li_M, nI_add, pk_mul, pk_sub, pk_div, pk_rem, k_mod, nI_clamp, nI_leI, nI_ltI, nI_eq, qin_nI, nI_m1, nN_lt, nN_lt2, nN_le, nN_le2, nN_eq, nN_eq2, qin_nN, Option.some.injEq, Prod.mk.injEq, Sum.inl.injEq, e1]
      · unfold F8_tryGroup
        simp (disch := omega) only [if_pos, if_neg, ite_true, ite_false, not_true_eq_false, Bool.false_eq_true, not_false_eq_true, eq_self, obs, ob1, ob2, obx, opx, li_0, li_1, li_2, li_3, li_4, li_5, li_6, li_7, li_8, li_9, li_10, li_14, li_16, li_20, li_21, li_24, li_25, li_32, li_44, li_48, li_57, li_60, li_64, li_81, li_84, li_99, li_100, li_101, li_108, li_111, li_115, li_116, li_120, li_140, li_255, li_500, li_999, li_1000, li_1092, li_1176, li_10000, li_100000, li_1000000, li_N, li_M, nI_add, pk_mul, pk_sub, pk_div, pk_rem, k_mod, nI_clamp, nI_leI, nI_ltI, nI_eq, qin_nI, nI_m1, nN_lt, nN_lt2, nN_le, nN_le2, nN_eq, nN_eq2, qin_nN, Option.some.injEq, Prod.mk.injEq, Sum.inl.injEq, m_isS_n kr_115 hS.2.1 (by omega) (nn_ne qs (by omega) (by omega))]
  · refine gr_n (fun S hS => ?_) (fun S hS => ?_)
    · unfold sG
      simp (disch := omega) only [if_pos, if_neg, ite_true, ite_false, not_true_eq_false, Bool.false_eq_true, not_false_eq_true, eq_self, obs, ob1, ob2, obx, opx, li_0, li_1, li_2, li_3, li_4, li_5, li_6, li_7, li_8, li_9, li_10, li_14, li_16, li_20, li_21, li_24, li_25, li_32, li_44, li_48, li_57, li_60, li_64, li_81, li_84, li_99, li_100, li_101, li_108, li_111, li_115, li_116, li_120, li_140, li_255, li_500, li_999, li_1000, li_1092, li_1176, li_10000, li_100000, li_1000000, li_N, li_M, nI_add, pk_mul, pk_sub, pk_div, pk_rem, k_mod, nI_clamp, nI_leI, nI_ltI, nI_eq, qin_nI, nI_m1, nN_lt, nN_lt2, nN_le, nN_le2, nN_eq, nN_eq2, qin_nN, Option.some.injEq, Prod.mk.injEq, Sum.inl.injEq]
    · unfold F8_tryGroup
      by_cases qs : 10 * a + b < T 0 1
      · simp (disch := omega) only [if_pos, if_neg, ite_true, ite_false, not_true_eq_false, Bool.false_eq_true, not_false_eq_true, eq_self, obs, ob1, ob2, obx, opx, li_0, li_1, li_2, li_3, li_4, li_5, li_6, li_7, li_8, li_9, li_10, li_14, li_16, li_20, li_21, li_24, li_25, li_32, li_44, li_48, li_57, li_60, li_64, li_81, li_84, li_99, li_100, li_101, li_108, li_111, li_115, li_116, li_120, li_140, li_255, li_500, li_999, li_1000, li_1092, li_1176, li_10000, li_100000, li_1000000, li_N, li_M, nI_add, pk_mul, pk_sub, pk_div, pk_rem, k_mod, nI_clamp, nI_leI, nI_ltI, nI_eq, qin_nI, nI_m1, nN_lt, nN_lt2, nN_le, nN_le2, nN_eq, nN_eq2, qin_nN, Option.some.injEq, Prod.mk.injEq, Sum.inl.injEq, m_isS_y kr_115 hS.2.1 (by omega) qs]
      · simp (disch := omega) only [if_pos, if_neg, ite_true, ite_false, not_true_eq_false, Bool.false_eq_true, not_false_eq_true, eq_self, obs, ob1, ob2, obx, opx, li_0, li_1, li_2, li_3, li_4, li_5, li_6, li_7, li_8, li_9, li_10, li_14, li_16, li_20, li_21, li_24, li_25, li_32, li_44, li_48, li_57, li_60, li_64, li_81, li_84, li_99, li_100, li_101, li_108, li_111, li_115, li_116, li_120, li_140, li_255, li_500, li_999, li_1000, li_1092, li_1176, li_10000, li_100000, li_1000000, li_N, li_M, nI_add, pk_mul, pk_sub, pk_div, pk_rem, k_mod, nI_clamp, nI_leI, nI_ltI, nI_eq, qin_nI, nI_m1, nN_lt, nN_lt2, nN_le, nN_le2, nN_eq, nN_eq2, qin_nN, Option.some.injEq, Prod.mk.injEq, Sum.inl.injEq, m_isS_n kr_115 hS.2.1 (by omega) (nn_ne qs (by omega) (by omega))]
theorem grp_5 (hv : vT T) (hn : 100000000 ≤ n) (ha : a < 10) (hb : b < 10) (hw : w < 100) : gOKr T (sG n (nI 5) (nI a) (nI b) (nI (10 * a + b)) (nI w) (nI (100 * b + w))) (F8_tryGroup n (nI 5) (nI a) (nI b) (nI w)) := by
  have h9 := hv.2.1
  have h2 := hv.1
  by_cases qw : w = 0
  case neg =>
    refine gr_n (fun S hS => ?_) (fun S hS => ?_)
    · unfold sG
      simp (disch := omega) only [if_pos, if_neg, ite_true, ite_false, not_true_eq_false, Bool.false_eq_true, not_false_eq_true, eq_self, obs, ob1, ob2, obx, opx, li_0, li_1, li_2, li_3, li_4, li_5, li_6, li_7, li_8, li_9, li_10, li_14, li_16, li_20, li_21, li_24, li_25, li_32, li_44, li_48, li_57, li_60, li_64, li_81, li_84, li_99, li_100, li_101, li_108, li_111, li_115, li_116, li_120, li_140, li_255, li_500, li_999, li_1000, li_1092, li_1176, li_10000, li_100000, li_1000000, li_N, li_M, nI_add, pk_mul, pk_sub, pk_div, pk_rem, k_mod, nI_clamp, nI_leI, nI_ltI, nI_eq, qin_nI, nI_m1, nN_lt, nN_lt2, nN_le, nN_le2, nN_eq, nN_eq2, qin_nN, Option.some.injEq, Prod.mk.injEq, Sum.inl.injEq]
    · unfold F8_tryGroup
      simp (disch := omega) only [if_pos, if_neg, ite_true, ite_false, not_true_eq_false, Bool.false_eq_true, not_false_eq_true, eq_self, obs, ob1, ob2, obx, opx, li_0, li_1, li_2, li_3, li_4, li_5, li_6, li_7, li_8, li_9, li_10, li_14, li_16, li_20, li_21, li_24, li_25, li_32, li_44, li_48, li_57, li_60, li_64, li_81, li_84, li_99, li_100, li_101, li_108, li_111, li_115, li_116, li_120, li_140, li_255, li_500, li_999, li_1000, li_1092, li_1176, li_10000, li_100000, li_1000000, li_N, li_M, nI_add, pk_mul, pk_sub, pk_div, pk_rem, k_mod, nI_clamp, nI_leI, nI_ltI, nI_eq, qin_nI, nI_m1, nN_lt, nN_lt2, nN_le, nN_le2, nN_eq, nN_eq2, qin_nN, Option.some.injEq, Prod.mk.injEq, Sum.inl.injEq]
  subst qw
  by_cases qa : a < T 0 0
  case neg =>
    refine gr_n (fun S hS => ?_) (fun S hS => ?_)
    · unfold sG
      simp (disch := omega) only [if_pos, if_neg, ite_true, ite_false, not_true_eq_false, Bool.false_eq_true, not_false_eq_true, eq_self, obs, ob1, ob2, obx, opx, li_0, li_1, li_2, li_3, li_4, li_5, li_6, li_7, li_8, li_9, li_10, li_14, li_16, li_20, li_21, li_24, li_25, li_32, li_44, li_48, li_57, li_60, li_64, li_81, li_84, li_99, li_100, li_101, li_108, li_111, li_115, li_116, li_120, li_140, li_255, li_500, li_999, li_1000, li_1092, li_1176, li_10000, li_100000, li_1000000, li_N, li_M, nI_add, pk_mul, pk_sub, pk_div, pk_rem, k_mod, nI_clamp, nI_leI, nI_ltI, nI_eq, qin_nI, nI_m1, nN_lt, nN_lt2, nN_le, nN_le2, nN_eq, nN_eq2, qin_nN, Option.some.injEq, Prod.mk.injEq, Sum.inl.injEq, c_dir_1 (y := nI b) hS hv (Or.inl (nn_ne qa (by omega) (by omega)))]
    · unfold F8_tryGroup
      by_cases qab : a = b
      · simp (disch := omega) only [if_pos, if_neg, ite_true, ite_false, not_true_eq_false, Bool.false_eq_true, not_false_eq_true, eq_self, obs, ob1, ob2, obx, opx, li_0, li_1, li_2, li_3, li_4, li_5, li_6, li_7, li_8, li_9, li_10, li_14, li_16, li_20, li_21, li_24, li_25, li_32, li_44, li_48, li_57, li_60, li_64, li_81, li_84, li_99, li_100, li_101, li_108, li_111, li_115, li_116, li_120, li_140, li_255, li_500, li_999, li_1000, li_1092, li_1176, li_10000, li_100000, li_1000000, li_N, li_M, nI_add, pk_mul, pk_sub, pk_div, pk_rem, k_mod, nI_clamp, nI_leI, nI_ltI, nI_eq, qin_nI, nI_m1, nN_lt, nN_lt2, nN_le, nN_le2, nN_eq, nN_eq2, qin_nN, Option.some.injEq, Prod.mk.injEq, Sum.inl.injEq]
      · simp (disch := omega) only [if_pos, if_neg, ite_true, ite_false, not_true_eq_false, Bool.false_eq_true, not_false_eq_true, eq_self, obs, ob1, ob2, obx, opx, li_0, li_1, li_2, li_3, li_4, li_5, li_6, li_7, li_8, li_9, li_10, li_14, li_16, li_20, li_21, li_24, li_25, li_32, li_44, li_48, li_57, li_60, li_64, li_81, li_84, li_99, li_100, li_101, li_108, li_111, li_115, li_116, li_120, li_140, li_255, li_500, li_999, li_1000, li_1092, li_1176, li_10000, li_100000, li_1000000, li_N, li_M, nI_add, pk_mul, pk_sub, pk_div, pk_rem, k_mod, nI_clamp, nI_leI, nI_ltI, nI_eq, qin_nI, nI_m1, nN_lt, nN_lt2, nN_le, nN_le2, nN_eq, nN_eq2, qin_nN, Option.some.injEq, Prod.mk.injEq, Sum.inl.injEq, m_isC_n kr_115 hS.1 (by omega) (by omega) (nn_ne qa (by omega) (by omega))]
  by_cases qb : b < T 0 0
  case neg =>
    refine gr_n (fun S hS => ?_) (fun S hS => ?_)
    · unfold sG
      simp (disch := omega) only [if_pos, if_neg, ite_true, ite_false, not_true_eq_false, Bool.false_eq_true, not_false_eq_true, eq_self, obs, ob1, ob2, obx, opx, li_0, li_1, li_2, li_3, li_4, li_5, li_6, li_7, li_8, li_9, li_10, li_14, li_16, li_20, li_21, li_24, li_25, li_32, li_44, li_48, li_57, li_60, li_64, li_81, li_84, li_99, li_100, li_101, li_108, li_111, li_115, li_116, li_120, li_140, li_255, li_500, li_999, li_1000, li_1092, li_1176, li_10000, li_100000, li_1000000, li_N, li_M, nI_add, pk_mul, pk_sub, pk_div, pk_rem, k_mod, nI_clamp, nI_leI, nI_ltI, nI_eq, qin_nI, nI_m1, nN_lt, nN_lt2, nN_le, nN_le2, nN_eq, nN_eq2, qin_nN, Option.some.injEq, Prod.mk.injEq, Sum.inl.injEq, c_dir_1 (x := nI a) hS hv (Or.inr (nn_ne qb (by omega) (by omega)))]
    · unfold F8_tryGroup
      by_cases qab : a = b
      · omega
      · simp (disch := omega) only [if_pos, if_neg, ite_true, ite_false, not_true_eq_false, Bool.false_eq_true, not_false_eq_true, eq_self, obs, ob1, ob2, obx, opx, li_0, li_1, li_2, li_3, li_4, li_5, li_6, li_7, li_8, li_9, li_10, li_14, li_16, li_20, li_21, li_24, li_25, li_32, li_44, li_48, li_57, li_60, li_64, li_81, li_84, li_99, li_100, li_101, li_108, li_111, li_115, li_116, li_120, li_140, li_255, li_500, li_999, li_1000, li_1092, li_1176, li_10000, li_100000, li_1000000, li_N, li_M, nI_add, pk_mul, pk_sub, pk_div, pk_rem, k_mod, nI_clamp, nI_leI, nI_ltI, nI_eq, qin_nI, nI_m1, nN_lt, nN_lt2, nN_le, nN_le2, nN_eq, nN_eq2, qin_nN, Option.some.injEq, Prod.mk.injEq, Sum.inl.injEq, m_isC_y kr_115 hS.1 (by omega) qa, m_isC_n kr_115 hS.1 (by omega) (by omega) (nn_ne qb (by omega) (by omega))]
  by_cases qab : a = b
  · subst qab
    refine gr_n (fun S hS => ?_) (fun S hS => ?_)
    · unfold sG
      simp (disch := omega) only [if_pos, if_neg, ite_true, ite_false, not_true_eq_false, Bool.false_eq_true, not_false_eq_true, eq_self, obs, ob1, ob2, obx, opx, li_0, li_1, li_2, li_3, li_4, li_5, li_6, li_7, li_8, li_9, li_10, li_14, li_16, li_20, li_21, li_24, li_25, li_32, li_44, li_48, li_57, li_60, li_64, li_81, li_84, li_99, li_100, li_101, li_108, li_111, li_115, li_116, li_120, li_140, li_255, li_500, li_999, li_1000, li_1092, li_1176, li_10000, li_100000, li_1000000, li_N, li_M, nI_add, pk_mul, pk_sub, pk_div, pk_rem, k_mod, nI_clamp, nI_leI, nI_ltI, nI_eq, qin_nI, nI_m1, nN_lt, nN_lt2, nN_le, nN_le2, nN_eq, nN_eq2, qin_nN, Option.some.injEq, Prod.mk.injEq, Sum.inl.injEq, c_dir_2 hS hv qa]
    · unfold F8_tryGroup
      simp (disch := omega) only [if_pos, if_neg, ite_true, ite_false, not_true_eq_false, Bool.false_eq_true, not_false_eq_true, eq_self, obs, ob1, ob2, obx, opx, li_0, li_1, li_2, li_3, li_4, li_5, li_6, li_7, li_8, li_9, li_10, li_14, li_16, li_20, li_21, li_24, li_25, li_32, li_44, li_48, li_57, li_60, li_64, li_81, li_84, li_99, li_100, li_101, li_108, li_111, li_115, li_116, li_120, li_140, li_255, li_500, li_999, li_1000, li_1092, li_1176, li_10000, li_100000, li_1000000, li_N, li_M, nI_add, pk_mul, pk_sub, pk_div, pk_rem, k_mod, nI_clamp, nI_leI, nI_ltI, nI_eq, qin_nI, nI_m1, nN_lt, nN_lt2, nN_le, nN_le2, nN_eq, nN_eq2, qin_nN, Option.some.injEq, Prod.mk.injEq, Sum.inl.injEq]
  · refine gr_c (T2 := tU (tU T 0 2 a) 0 3 b) (vK_dir hv qa qb qab) (fun S hS => ?_) (fun S hS => ?_)
    · obtain ⟨S2, e2, t2, k2⟩ := c_dir_0 hS hv qa qb qab
      refine ⟨S2, ?_, t2, k2⟩
      unfold sG
      simp (disch := omega) only [if_pos, if_neg, ite_true, ite_false, not_true_eq_false, Bool.false_eq_true, not_false_eq_true, eq_self, obs, ob1, ob2, obx, opx, li_0, li_1, li_2, li_3, li_4, li_5, li_6, li_7, li_8, li_9, li_10, li_14, li_16, li_20, li_21, li_24, li_25, li_32, li_44, li_48, li_57, li_60, li_64, li_81, li_84, li_99, li_100, li_101, li_108, li_111, li_115, li_116, li_120, li_140, li_255, li_500, li_999, li_1000, li_1092, li_1176, li_10000, li_100000, li_1000000, li_N, li_M, nI_add, pk_mul, pk_sub, pk_div, pk_rem, k_mod, nI_clamp, nI_leI, nI_ltI, nI_eq, qin_nI, nI_m1, nN_lt, nN_lt2, nN_le, nN_le2, nN_eq, nN_eq2, qin_nN, Option.some.injEq, Prod.mk.injEq, Sum.inl.injEq, e2]
    · refine ⟨_, ?_, isM_hd (isM_hd hS (show 2 < 4 by omega) (by omega) a) (show 3 < 4 by omega) (by omega) b, kp_up (kp_up kp_rfl (by simp)) (by simp)⟩
      unfold F8_tryGroup
      simp (disch := omega) only [if_pos, if_neg, ite_true, ite_false, not_true_eq_false, Bool.false_eq_true, not_false_eq_true, eq_self, obs, ob1, ob2, obx, opx, li_0, li_1, li_2, li_3, li_4, li_5, li_6, li_7, li_8, li_9, li_10, li_14, li_16, li_20, li_21, li_24, li_25, li_32, li_44, li_48, li_57, li_60, li_64, li_81, li_84, li_99, li_100, li_101, li_108, li_111, li_115, li_116, li_120, li_140, li_255, li_500, li_999, li_1000, li_1092, li_1176, li_10000, li_100000, li_1000000, li_N, li_M, nI_add, pk_mul, pk_sub, pk_div, pk_rem, k_mod, nI_clamp, nI_leI, nI_ltI, nI_eq, qin_nI, nI_m1, nN_lt, nN_lt2, nN_le, nN_le2, nN_eq, nN_eq2, qin_nN, Option.some.injEq, Prod.mk.injEq, Sum.inl.injEq, m_isC_y kr_115 hS.1 (by omega) qa, m_isC_y kr_115 hS.1 (by omega) qb]
end QGP
