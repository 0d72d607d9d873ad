/-! SIMULATE, ALL DAYS -/
theorem dayT_v {T0 : Tn} : ∀ j s T x, vT T → vT (dayT T0 j s T x) ∧ ∀ i, i ≠ 4 → dayT T0 j s T x i = T i := by
  intro j
  induction j with
  | zero => exact fun s T x h => ⟨h, fun _ _ => rfl⟩
  | succ j ih =>
    intro s T x h
    rw [dayT]
    by_cases q : T0 4 s = 0
    · rw [if_pos q]
      generalize lcg x = y
      have hb : (if shK y % 4 = 0 then 1 else 0) ≤ 1 := by split <;> omega
      generalize (if shK y % 4 = 0 then 1 else 0) = b at *
      obtain ⟨h1, h2⟩ := ih (s + 1) (tU T 4 s b) y (vK_shut h hb)
      refine ⟨h1, fun i hi => ?_⟩
      rw [h2 i hi]
      funext r
      unfold tU
      rw [if_neg (by omega)]
    · rw [if_neg q]
      exact ih (s + 1) T x h
theorem days_ex {T : Tn} (hv : vT T) : ∃ A : Int64 → Nat, ∀ x, A x ≤ gU ∧ ∀ e, isG e (dayT T (T 0 1) 0 T x) 9999 → ∃ D, gD 100 e (T 0 3) D ∧ D (T 0 2) = A x := by
  have key : ∀ x, ∃ a : Nat, a ≤ gU ∧ ∀ e, isG e (dayT T (T 0 1) 0 T x) 9999 → ∃ D, gD 100 e (T 0 3) D ∧ D (T 0 2) = a := fun x => by
    obtain ⟨h1, h2⟩ := dayT_v (T0 := T) (T 0 1) 0 T x hv
    obtain ⟨e, D, p, kk, hG, hD, -, -, -, -, -, hDU⟩ := all_ex h1 9999
    rw [h2 0 (by omega)] at hD hDU
    refine ⟨D (T 0 2), hDU, fun e2 hG2 => ⟨D, ?_, rfl⟩⟩
    rw [isG_uniq hG2 hG]
    exact hD
  exact ⟨fun x => Classical.choose (key x), fun x => Classical.choose_spec (key x)⟩
/-- what the days from x on add -/
def tot (A : Int64 → Nat) (T : Tn) : Nat → Int64 → Nat
  | 0, _ => 0
  | j + 1, x => (if A x = gU then 100000 else A x / 100) + tot A T j (dayX T (T 0 1) 0 x)
theorem lenI_U : lenI gU = nN := if_pos rfl
theorem lenI_y {x : Nat} (h : x ≠ gU) : lenI x = nI (x / 100) := if_neg h
section QSIM
variable {S0 : qSt} {T : Tn} {n m : Nat} {A : Int64 → Nat}
theorem c_days (hT : isT S0 8 T) (hv : vT T) (hA : ∀ x, A x ≤ gU ∧ ∀ e, isG e (dayT T (T 0 1) 0 T x) 9999 → ∃ D, gD 100 e (T 0 3) D ∧ D (T 0 2) = A x) (hm : m ≤ 60) (hn : 100 ≤ n) : ∀ j day f S x sum, day + j = m → j < f → kp pW S0 S → ∃ S2, B7_simulate_31 n f (nI m) x (nI sum) (nI day) S = some (.inl (nI (sum + tot A T j x)), S2) ∧ kp pW S0 S2 := by
  have h20 := hv.2.2.1
  have hU : gU = 1000000 := rfl
  intro j
  induction j with
  | zero =>
    intro day f S x sum hs hf hk
    obtain ⟨g, rfl, hg⟩ := fuel_s hf
    refine ⟨S, ?_, hk⟩
    rw [B7_simulate_31, tot]
    simp (disch := omega) only [if_pos, if_neg, ite_true, ite_false, not_true_eq_false, Bool.false_eq_true, not_false_eq_true, eq_self, obs, ob1, ob2, obx, opx, li_0, li_1, li_2, li_3, li_4, li_5, li_6, li_7, li_8, li_9, li_10, li_14, li_16, li_20, li_21, li_24, li_25, li_32, li_44, li_48, li_57, li_60, li_64, li_81, li_84, li_99, li_100, li_101, li_108, li_111, li_115, li_116, li_120, li_140, li_255, li_500, li_999, li_1000, li_1092, li_1176, li_10000, li_100000, li_1000000, li_N, li_M, nI_add, pk_mul, pk_sub, pk_div, pk_rem, k_mod, nI_clamp, nI_leI, nI_ltI, nI_eq, qin_nI, nI_m1, nN_lt, nN_lt2, nN_le, nN_le2, nN_eq, nN_eq2, qin_nN, Option.some.injEq, Prod.mk.injEq, Sum.inl.injEq, Nat.add_zero]
  | succ j ih =>
    intro day f S x sum hs hf hk
    obtain ⟨g, rfl, hg⟩ := fuel_s hf
    have hT1 := isT_kp hT hk (by decide) (by decide) (by decide) (by decide) (by decide)
    obtain ⟨S1, e1, t1, k1⟩ := c_cp (o := 13) (n := n) hT1 hv (by omega) (by omega) hn
    have hT2 := isT_kp hT1 k1 (by decide) (by decide) (by decide) (by decide) (by decide)
    obtain ⟨S2, e2, k2, t2⟩ := c_day (n := n) (K := B7_simulate_31 n g) (v3 := nI m) (v6 := nI sum) (v7 := nI day) hT2 hv (T 0 1) 0 n S1 T x (by omega) (by omega) kp_rfl t1
    obtain ⟨v1, v2⟩ := dayT_v (T0 := T) (T 0 1) 0 T x hv
    obtain ⟨e, hG⟩ := isG_ex _ 9999 v1
    obtain ⟨D, hD, hDA⟩ := (hA x).2 e hG
    have hd0 := v2 0 (by omega)
    obtain ⟨S3, e3, k3⟩ := c_bl (n := n) t2 (Or.inl (by omega)) v1 (by omega) hG (by rw [hd0]; omega) (by rw [hd0]; exact hD) hn
    rw [hd0, hDA] at e3
    have k4 : kp pW S0 S3 := kp_tr hk (kp_tr (kp_tr (R := pW) k1 k2 (by simp) (by simp)) k3 (fun _ h => h) (by simp)) (fun _ h => h) (fun _ h => h)
    have step : B7_simulate_31 n (g + 1) (nI m) x (nI sum) (nI day) S = B7_simulate_31 n g (nI m) (dayX T (T 0 1) 0 x) (nI (sum + (if A x = gU then 100000 else A x / 100))) (nI (day + 1)) S3 := by
      rw [B7_simulate_31]
      simp (disch := omega) only [if_pos, if_neg, ite_true, ite_false, not_true_eq_false, Bool.false_eq_true, not_false_eq_true, eq_self, obs, ob1, ob2, obx, opx, li_0, li_1, li_2, li_3, li_4, li_5, li_6, li_7, li_8, li_9, li_10, li_14, li_16, li_20, li_21, li_24, li_25, li_32, li_44, li_48, li_57, li_60, li_64, li_81, li_84, li_99, li_100, li_101, li_108, li_111, li_115, li_116, li_120, li_140, li_255, li_500, li_999, li_1000, li_1092, li_1176, li_10000, li_100000, li_1000000, li_N, li_M, nI_add, pk_mul, pk_sub, pk_div, pk_rem, k_mod, nI_clamp, nI_leI, nI_ltI, nI_eq, qin_nI, nI_m1, nN_lt, nN_lt2, nN_le, nN_le2, nN_eq, nN_eq2, qin_nN, Option.some.injEq, Prod.mk.injEq, Sum.inl.injEq, e1]
      rw [e2]
      generalize dayX T (T 0 1) 0 x = y
      unfold B7_simulate_124 B7_simulate_152
      by_cases q : A x = gU
      · simp (disch := omega) only [if_pos, if_neg, ite_true, ite_false, not_true_eq_false, Bool.false_eq_true, not_false_eq_true, eq_self, obs, ob1, ob2, obx, opx, li_0, li_1, li_2, li_3, li_4, li_5, li_6, li_7, li_8, li_9, li_10, li_14, li_16, li_20, li_21, li_24, li_25, li_32, li_44, li_48, li_57, li_60, li_64, li_81, li_84, li_99, li_100, li_101, li_108, li_111, li_115, li_116, li_120, li_140, li_255, li_500, li_999, li_1000, li_1092, li_1176, li_10000, li_100000, li_1000000, li_N, li_M, nI_add, pk_mul, pk_sub, pk_div, pk_rem, k_mod, nI_clamp, nI_leI, nI_ltI, nI_eq, qin_nI, nI_m1, nN_lt, nN_lt2, nN_le, nN_le2, nN_eq, nN_eq2, qin_nN, Option.some.injEq, Prod.mk.injEq, Sum.inl.injEq, e3, q, lenI_U]
      · have q2 := lenI_y q
        have q3 := (hA x).1
        simp (disch := omega) only [if_pos, if_neg, ite_true, ite_false, not_true_eq_false, Bool.false_eq_true, not_false_eq_true, eq_self, obs, ob1, ob2, obx, opx, li_0, li_1, li_2, li_3, li_4, li_5, li_6, li_7, li_8, li_9, li_10, li_14, li_16, li_20, li_21, li_24, li_25, li_32, li_44, li_48, li_57, li_60, li_64, li_81, li_84, li_99, li_100, li_101, li_108, li_111, li_115, li_116, li_120, li_140, li_255, li_500, li_999, li_1000, li_1092, li_1176, li_10000, li_100000, li_1000000, li_N, li_M, nI_add, pk_mul, pk_sub, pk_div, pk_rem, k_mod, nI_clamp, nI_leI, nI_ltI, nI_eq, qin_nI, nI_m1, nN_lt, nN_lt2, nN_le, nN_le2, nN_eq, nN_eq2, qin_nN, Option.some.injEq, Prod.mk.injEq, Sum.inl.injEq, e3, q, q2]
    rw [step, tot]
    generalize dayX T (T 0 1) 0 x = y
    rw [← Nat.add_assoc]
    exact ih (day + 1) g S3 y _ (by omega) (by omega) k4
theorem m_days (hT : isM S0 114 0 T) (hv : vT T) (hA : ∀ x, A x ≤ gU ∧ ∀ e, isG e (dayT T (T 0 1) 0 T x) 9999 → ∃ D, gD 100 e (T 0 3) D ∧ D (T 0 2) = A x) (hm : m ≤ 60) (hn : 100000000 ≤ n) : ∀ j day f S x cut sum, day + j = m → j < f → kp [120, 121] S0 S → ∃ S2, B8_simulate_38 n f (nI m) (nI cut) (nI sum) x (nI day) S = some (nI (100000 * cut + sum + tot A T j x), S2) ∧ kp [120, 121] S0 S2 := by
  have h20 := hv.2.2.1
  have hU : gU = 1000000 := rfl
  intro j
  induction j with
  | zero =>
    intro day f S x cut sum hs hf hk
    obtain ⟨g, rfl, hg⟩ := fuel_s hf
    refine ⟨S, ?_, hk⟩
    rw [B8_simulate_38, tot]
    simp (disch := omega) only [if_pos, if_neg, ite_true, ite_false, not_true_eq_false, Bool.false_eq_true, not_false_eq_true, eq_self, obs, ob1, ob2, obx, opx, li_0, li_1, li_2, li_3, li_4, li_5, li_6, li_7, li_8, li_9, li_10, li_14, li_16, li_20, li_21, li_24, li_25, li_32, li_44, li_48, li_57, li_60, li_64, li_81, li_84, li_99, li_100, li_101, li_108, li_111, li_115, li_116, li_120, li_140, li_255, li_500, li_999, li_1000, li_1092, li_1176, li_10000, li_100000, li_1000000, li_N, li_M, nI_add, pk_mul, pk_sub, pk_div, pk_rem, k_mod, nI_clamp, nI_leI, nI_ltI, nI_eq, qin_nI, nI_m1, nN_lt, nN_lt2, nN_le, nN_le2, nN_eq, nN_eq2, qin_nN, Option.some.injEq, Prod.mk.injEq, Sum.inl.injEq, Nat.add_zero, B8_simulate_191]
  | succ j ih =>
    intro day f S x cut sum hs hf hk
    obtain ⟨g, rfl, hg⟩ := fuel_s hf
    have hT1 := isM_kp hT hk (by decide)
    obtain ⟨e0, hG0⟩ := isG_ex T 9999 hv
    obtain ⟨S1, e1, k1, c1⟩ := m_lc (n := n) (but := 9999) kr_114 (by omega) hT1 hv hG0 (by omega)
    rw [bI_N] at e1
    have hT2 := isM_kp hT1 k1 (by decide)
    obtain ⟨S2, e, e2, k2, hG, c2, v1, v2⟩ := m_day (n := n) (K := B8_simulate_38 n g) (v3 := nI m) (v4 := nI cut) (v5 := nI sum) (v8 := nI day) hT2 hv (T 0 1) 0 n S1 T e0 x (by omega) (by omega) kp_rfl hv (fun _ _ => rfl) (fun _ _ => rfl) hG0 c1
    obtain ⟨D, hD, hDA⟩ := (hA x).2 e hG
    obtain ⟨S3, e3, k3, -⟩ := m_best (n := n) kr_114 (by omega) (isM_kp hT2 k2 (by decide)) hv (isG_ok v1 hG) c2 hD hn
    rw [hDA] at e3
    have k4 : kp [120, 121] S0 S3 := kp_tr hk (kp_tr (kp_tr (R := [120, 121]) k1 k2 (by simp) (by simp)) k3 (fun _ h => h) (by simp)) (fun _ h => h) (fun _ h => h)
    have step : B8_simulate_38 n (g + 1) (nI m) (nI cut) (nI sum) x (nI day) S = B8_simulate_38 n g (nI m) (nI (cut + if A x = gU then 1 else 0)) (nI (sum + (if A x = gU then 0 else A x / 100))) (dayX T (T 0 1) 0 x) (nI (day + 1)) S3 := by
      rw [B8_simulate_38]
      simp (disch := omega) only [if_pos, if_neg, ite_true, ite_false, not_true_eq_false, Bool.false_eq_true, not_false_eq_true, eq_self, obs, ob1, ob2, obx, opx, li_0, li_1, li_2, li_3, li_4, li_5, li_6, li_7, li_8, li_9, li_10, li_14, li_16, li_20, li_21, li_24, li_25, li_32, li_44, li_48, li_57, li_60, li_64, li_81, li_84, li_99, li_100, li_101, li_108, li_111, li_115, li_116, li_120, li_140, li_255, li_500, li_999, li_1000, li_1092, li_1176, li_10000, li_100000, li_1000000, li_N, li_M, nI_add, pk_mul, pk_sub, pk_div, pk_rem, k_mod, nI_clamp, nI_leI, nI_ltI, nI_eq, qin_nI, nI_m1, nN_lt, nN_lt2, nN_le, nN_le2, nN_eq, nN_eq2, qin_nN, Option.some.injEq, Prod.mk.injEq, Sum.inl.injEq, e1]
      rw [e2]
      generalize dayX T (T 0 1) 0 x = y
      unfold B8_simulate_138 B8_simulate_163 B8_simulate_182
      by_cases q : A x = gU
      · simp (disch := omega) only [if_pos, if_neg, ite_true, ite_false, not_true_eq_false, Bool.false_eq_true, not_false_eq_true, eq_self, obs, ob1, ob2, obx, opx, li_0, li_1, li_2, li_3, li_4, li_5, li_6, li_7, li_8, li_9, li_10, li_14, li_16, li_20, li_21, li_24, li_25, li_32, li_44, li_48, li_57, li_60, li_64, li_81, li_84, li_99, li_100, li_101, li_108, li_111, li_115, li_116, li_120, li_140, li_255, li_500, li_999, li_1000, li_1092, li_1176, li_10000, li_100000, li_1000000, li_N, li_M, nI_add, pk_mul, pk_sub, pk_div, pk_rem, k_mod, nI_clamp, nI_leI, nI_ltI, nI_eq, qin_nI, nI_m1, nN_lt, nN_lt2, nN_le, nN_le2, nN_eq, nN_eq2, qin_nN, Option.some.injEq, Prod.mk.injEq, Sum.inl.injEq, e3, q, lenI_U]
      · have q2 := lenI_y q
        have q3 := (hA x).1
        simp (disch := omega) only [if_pos, if_neg, ite_true, ite_false, not_true_eq_false, Bool.false_eq_true, not_false_eq_true, eq_self, obs, ob1, ob2, obx, opx, li_0, li_1, li_2, li_3, li_4, li_5, li_6, li_7, li_8, li_9, li_10, li_14, li_16, li_20, li_21, li_24, li_25, li_32, li_44, li_48, li_57, li_60, li_64, li_81, li_84, li_99, li_100, li_101, li_108, li_111, li_115, li_116, li_120, li_140, li_255, li_500, li_999, li_1000, li_1092, li_1176, li_10000, li_100000, li_1000000, li_N, li_M, nI_add, pk_mul, pk_sub, pk_div, pk_rem, k_mod, nI_clamp, nI_leI, nI_ltI, nI_eq, qin_nI, nI_m1, nN_lt, nN_lt2, nN_le, nN_le2, nN_eq, nN_eq2, qin_nN, Option.some.injEq, Prod.mk.injEq, Sum.inl.injEq, e3, q, q2]
    rw [step, tot]
    generalize dayX T (T 0 1) 0 x = y
    obtain ⟨S5, e5, k5⟩ := ih (day + 1) g S3 y (cut + if A x = gU then 1 else 0) (sum + (if A x = gU then 0 else A x / 100)) (by omega) (by omega) k4
    refine ⟨S5, ?_, k5⟩
    rw [e5]
    congr 3
    split <;> omega
theorem rng_n (S0 : qSt) {x : Int32} {lo hi : Nat} (hh : hi + 1 < 2 ^ 31) (hl : lo < 2 ^ 31) (h : ∀ j, lo ≤ j → j ≤ hi → x ≠ nI j) : x < nI lo ∨ ¬ x ≤ nI hi := by
  have h1 := in_n S0 h hh hl
  rw [in32] at h1
  by_cases q : x < nI lo
  · exact Or.inl q
  · rw [if_neg q] at h1
    by_cases q2 : nI hi < x
    · exact Or.inr (Int32.not_le.mpr q2)
    · rw [if_neg q2] at h1
      exact absurd h1 (by decide +kernel)
theorem k_simulate {S : qSt} (h : Rel S) (hn : 100000000 ≤ n) (w : Int64) (y : Int32) : okc (CC (FL_simulate n w y S) (F8_simulate n w y)) := by
  obtain ⟨L, c, T, hc, H, F, K, hR, rm, ok⟩ := h
  have hv := ok.2.2.1
  have hT := hR.2.1
  unfold FL_simulate
  by_cases hl : ∀ l, 1 ≤ l → l ≤ 60 → y ≠ nI l
  · refine okc_e (k := 0) (w := 1) hR rm ok ?_ (fun S => by simp (disch := omega) only [if_pos, if_neg, ite_true, ite_false, not_true_eq_false, Bool.false_eq_true, not_false_eq_true, eq_self, obs, ob1, ob2, obx, opx, li_0, li_1, li_2, li_3, li_4, li_5, li_6, li_7, li_8, li_9, li_10, li_14, li_16, li_20, li_21, li_24, li_25, li_32, li_44, li_48, li_57, li_60, li_64, li_81, li_84, li_99, li_100, li_101, li_108, li_111, li_115, li_116, li_120, li_140, li_255, li_500, li_999, li_1000, li_1092, li_1176, li_10000, li_100000, li_1000000, li_N, li_M, nI_add, pk_mul, pk_sub, pk_div, pk_rem, k_mod, nI_clamp, nI_leI, nI_ltI, nI_eq, qin_nI, nI_m1, nN_lt, nN_lt2, nN_le, nN_le2, nN_eq, nN_eq2, qin_nN, Option.some.injEq, Prod.mk.injEq, Sum.inl.injEq]) (by omega) (by omega) (fun S rm => ?_)
    · unfold F7_simulate B7_simulate_11
      rcases rng_n S (by omega) (by omega) hl with q | q
      · rw [show (1 : Int32) = nI 1 from rfl, if_pos q]
      · rw [show (60 : Int32) = nI 60 from rfl, if_neg q]
        split <;> rfl
    · have hin : F8_in y.toInt64 1 60 S = nI 0 := by
        rw [l64_1, l64_60]
        exact in_n S hl (by omega) (by omega)
      unfold F8_simulate B8_simulate_18
      simp (disch := omega) only [if_pos, if_neg, ite_true, ite_false, not_true_eq_false, Bool.false_eq_true, not_false_eq_true, eq_self, obs, ob1, ob2, obx, opx, li_0, li_1, li_2, li_3, li_4, li_5, li_6, li_7, li_8, li_9, li_10, li_14, li_16, li_20, li_21, li_24, li_25, li_32, li_44, li_48, li_57, li_60, li_64, li_81, li_84, li_99, li_100, li_101, li_108, li_111, li_115, li_116, li_120, li_140, li_255, li_500, li_999, li_1000, li_1092, li_1176, li_10000, li_100000, li_1000000, li_N, li_M, nI_add, pk_mul, pk_sub, pk_div, pk_rem, k_mod, nI_clamp, nI_leI, nI_ltI, nI_eq, qin_nI, nI_m1, nN_lt, nN_lt2, nN_le, nN_le2, nN_eq, nN_eq2, qin_nN, Option.some.injEq, Prod.mk.injEq, Sum.inl.injEq, hin]
      exact m_throw (f := fun _ S3 => B8_simulate_38 n n y 0 0 w 0 S3) 1 (by omega) (by omega)
  · have hl2 : ∃ l, 1 ≤ l ∧ l ≤ 60 ∧ y = nI l := Classical.byContradiction fun q => hl (fun l h1 h2 h3 => q ⟨l, h1, h2, h3⟩)
    obtain ⟨l, l1, l2, rfl⟩ := hl2
    obtain ⟨A, hA⟩ := days_ex hv
    obtain ⟨S1, e1, k1⟩ := c_days (n := n) hT hv hA l2 (by omega) l 0 n S w 0 (by omega) (by omega) kp_rfl
    refine okc_q (r := nI (tot A T l w)) rm ⟨S1, ?_, RC_kp hR k1 (by simp), kC_kp k1 (by simp)⟩ (fun S rm => ?_) ok
    · unfold F7_simulate
      simp (disch := omega) only [if_pos, if_neg, ite_true, ite_false, not_true_eq_false, Bool.false_eq_true, not_false_eq_true, eq_self, obs, ob1, ob2, obx, opx, li_0, li_1, li_2, li_3, li_4, li_5, li_6, li_7, li_8, li_9, li_10, li_14, li_16, li_20, li_21, li_24, li_25, li_32, li_44, li_48, li_57, li_60, li_64, li_81, li_84, li_99, li_100, li_101, li_108, li_111, li_115, li_116, li_120, li_140, li_255, li_500, li_999, li_1000, li_1092, li_1176, li_10000, li_100000, li_1000000, li_N, li_M, nI_add, pk_mul, pk_sub, pk_div, pk_rem, k_mod, nI_clamp, nI_leI, nI_ltI, nI_eq, qin_nI, nI_m1, nN_lt, nN_lt2, nN_le, nN_le2, nN_eq, nN_eq2, qin_nN, Option.some.injEq, Prod.mk.injEq, Sum.inl.injEq, e1, Nat.zero_add]
    · obtain ⟨r1, r2, r3, r4⟩ := rq rm 0
      obtain ⟨S2, e2, k2⟩ := m_days (n := n) r4 hv hA l2 hn l 0 n _ w 0 0 (by omega) (by omega) kp_rfl
      obtain ⟨g1, g2, g3⟩ := m_keep2 r1 k2
      have hin : F8_in (nI l).toInt64 1 60 S = nI 1 := by
        rw [l64_1, l64_60]
        exact in_y S l1 l2 (by omega)
      refine ⟨S2, ?_, g1, kM_tr r2 g2, g3.trans r3⟩
      unfold F8_simulate B8_simulate_18
      simp (disch := omega) only [if_pos, if_neg, ite_true, ite_false, not_true_eq_false, Bool.false_eq_true, not_false_eq_true, eq_self, obs, ob1, ob2, obx, opx, li_0, li_1, li_2, li_3, li_4, li_5, li_6, li_7, li_8, li_9, li_10, li_14, li_16, li_20, li_21, li_24, li_25, li_32, li_44, li_48, li_57, li_60, li_64, li_81, li_84, li_99, li_100, li_101, li_108, li_111, li_115, li_116, li_120, li_140, li_255, li_500, li_999, li_1000, li_1092, li_1176, li_10000, li_100000, li_1000000, li_N, li_M, nI_add, pk_mul, pk_sub, pk_div, pk_rem, k_mod, nI_clamp, nI_leI, nI_ltI, nI_eq, qin_nI, nI_m1, nN_lt, nN_lt2, nN_le, nN_le2, nN_eq, nN_eq2, qin_nN, Option.some.injEq, Prod.mk.injEq, Sum.inl.injEq, hin, m_ref_0, e2, Nat.zero_add, Nat.mul_zero]
end QSIM
