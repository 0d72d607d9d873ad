/-! ONE STREET IS READ, THE MODEL -/
theorem a21 (i : Nat) : i + 2 - 1 = i + 1 := rfl
theorem a32 (i : Nat) : i + 3 - 1 = i + 2 := rfl
section QMST
variable {L : Nat} {c : Nat → Nat} {T : Tn}
theorem m_digC {S : qSt} {i m : Nat} (h : mX S L c) (ok : okX L c) (h3 : S 111 3 = nI i) (hi1 : i < 1000) (hm : 1 ≤ m) (hm2 : m ≤ 10) : F8_digit (nI 0) (nI (m - 1)) S = some (if dg L c i < m then (nI (dg L c i), qup S 111 3 (nI (i + 1))) else (nN, S)) := by
  rw [m_dig h ok h3 hi1 (by omega) (by omega)]
  by_cases q : dg L c i < m
  · rw [if_pos q, if_pos ⟨by omega, by omega⟩]
  · rw [if_neg q, if_neg (by omega)]
theorem m_rds {S : qSt} {i n : Nat} (hx : mX S L c) (ok : okX L c) (hT : isM S 113 0 T) (hv : vT T) (h3 : S 111 3 = nI (i + 1)) (q1 : i < L ∧ c i = 115) (q2 : ¬ (20 ≤ T 0 1 ∨ T 0 0 * (T 0 0 - 1) ≤ 2 * T 0 1)) (hn : 100 ≤ n) : ∃ S2, F8_readStreet n S = some (nI (isO (rdS L c T i).2), S2) ∧ S2 111 3 = nI (rdS L c T i).1 ∧ kp [111, 113] S S2 ∧ k1 [3] S S2 ∧ ∀ T2, (rdS L c T i).2 = some T2 → isM S2 113 0 T2 := by
  have hL := ok.1
  have h9 := hv.2.1
  have h2 := hv.1
  have h20 := hv.2.2.1
  have hx1 : ∀ v, mX (qup S 111 3 v) L c := fun v => by
    unfold mX
    rw [qup_k _ _ _ (by omega), qup_o _ _ _ (by omega)]
    exact hx
  have hT1 : ∀ v, isM (qup S 111 3 v) 113 0 T := fun v => isM_cg hT (qup_o _ _ _ (by omega))
  have t0 : S 113 0 = nI (T 0 0) := hT.1
  have hk : ∀ v, kp [111, 113] S (qup S 111 3 v) := fun v => kp_up kp_rfl (by simp)
  have hk1 : ∀ v, k1 [3] S (qup S 111 3 v) := fun v => k1_up k1_rfl (by simp)
  have no : ∀ (T2 : Tn), (none : Option Tn) = some T2 → ∀ S2 : qSt, isM S2 113 0 T2 := fun T2 h => by cases h
  have hd1 := m_digC (m := T 0 0) hx ok h3 (by omega) (by omega) (by omega)
  unfold rdS
  rw [if_neg (fun w => w.elim (fun v => v q1) q2)]
  by_cases qa : dg L c (i + 1) < T 0 0
  case neg =>
    rw [if_pos (Or.inl qa)]
    rw [if_neg qa] at hd1
    refine ⟨S, ?_, h3, kp_rfl, k1_rfl, fun T2 h => no T2 h _⟩
    unfold F8_readStreet B8_readStreet_52
    simp (disch := omega) only [if_pos, if_neg, ite_true, ite_false, not_true_eq_false, Bool.false_eq_true, not_false_eq_true, eq_self, obs, ob1, ob2, obx, opx, li_0, li_1, li_2, li_3, li_4, li_5, li_6, li_7, li_8, li_9, li_10, li_14, li_16, li_20, li_21, li_24, li_25, li_32, li_44, li_48, li_57, li_60, li_64, li_81, li_84, li_99, li_100, li_101, li_108, li_111, li_115, li_116, li_120, li_140, li_255, li_500, li_999, li_1000, li_1092, li_1176, li_10000, li_100000, li_1000000, li_N, li_M, nI_add, pk_mul, pk_sub, pk_div, pk_rem, k_mod, nI_clamp, nI_leI, nI_ltI, nI_eq, qin_nI, nI_m1, nN_lt, nN_lt2, nN_le, nN_le2, nN_eq, nN_eq2, qin_nN, Option.some.injEq, Prod.mk.injEq, Sum.inl.injEq, t0, hd1, isO_n]
  rw [if_pos qa, Nat.add_assoc] at hd1
  have hsa := m_sa (n := n) (w := 0) kr_113 (hT1 (nI (i + 2))) hv (show dg L c (i + 1) < 9 by omega) (by omega) hn
  have hcl := cc_aN_le hv qa
  have hsa2 : F8_streetsAt n 113 (nI (dg L c (i + 1))) (nI 0) (qup S 111 3 (nI (i + 2))) = some (nI (cc (fun s => aN T s (dg L c (i + 1))) (T 0 1) 0)) := by
    rw [hsa]
    rfl
  clear hsa
  by_cases qj : T 0 0 - 1 ≤ cc (fun s => aN T s (dg L c (i + 1))) (T 0 1) 0
  · rw [if_pos (Or.inr qj)]
    refine ⟨qup S 111 3 (nI (i + 1)), ?_, qup_s .., hk _, hk1 _, fun T2 h => no T2 h _⟩
    have z : cc (fun s => aN T s (dg L c (i + 1))) (T 0 1) 0 = T 0 0 - 1 := by omega
    rw [z] at hsa2
    unfold F8_readStreet B8_readStreet_52
    simp (disch := omega) only [if_pos, if_neg, ite_true, ite_false, not_true_eq_false, Bool.false_eq_true, not_false_eq_true, eq_self, obs, ob1, ob2, obx, opx, li_0, li_1, li_2, li_3, li_4, li_5, li_6, li_7, li_8, li_9, li_10, li_14, li_16, li_20, li_21, li_24, li_25, li_32, li_44, li_48, li_57, li_60, li_64, li_81, li_84, li_99, li_100, li_101, li_108, li_111, li_115, li_116, li_120, li_140, li_255, li_500, li_999, li_1000, li_1092, li_1176, li_10000, li_100000, li_1000000, li_N, li_M, nI_add, pk_mul, pk_sub, pk_div, pk_rem, k_mod, nI_clamp, nI_leI, nI_ltI, nI_eq, qin_nI, nI_m1, nN_lt, nN_lt2, nN_le, nN_le2, nN_eq, nN_eq2, qin_nN, Option.some.injEq, Prod.mk.injEq, Sum.inl.injEq, t0, hd1, isO_n, hsa2, qup_s, a21, qup_qup]
  rw [if_neg (fun w => w.elim (fun v => v qa) qj)]
  have z : ¬ cc (fun s => aN T s (dg L c (i + 1))) (T 0 1) 0 = T 0 0 - 1 := by omega
  have z2 : ¬ nI (cc (fun s => aN T s (dg L c (i + 1))) (T 0 1) 0) = nI (T 0 0 - 1) := fun w => z (nI_inj (by omega) (by omega) w)
  have hd2 := m_digC (m := T 0 0) (hx1 (nI (i + 2))) ok (qup_s ..) (by omega) (by omega) (by omega)
  have st1 : F8_readStreet n S = B8_readStreet_52 n (nI (T 0 0)) (nI (dg L c (i + 1))) (qup S 111 3 (nI (i + 2))) := by
    unfold F8_readStreet
    simp (disch := omega) only [if_pos, if_neg, ite_true, ite_false, not_true_eq_false, Bool.false_eq_true, not_false_eq_true, eq_self, obs, ob1, ob2, obx, opx, li_0, li_1, li_2, li_3, li_4, li_5, li_6, li_7, li_8, li_9, li_10, li_14, li_16, li_20, li_21, li_24, li_25, li_32, li_44, li_48, li_57, li_60, li_64, li_81, li_84, li_99, li_100, li_101, li_108, li_111, li_115, li_116, li_120, li_140, li_255, li_500, li_999, li_1000, li_1092, li_1176, li_10000, li_100000, li_1000000, li_N, li_M, nI_add, pk_mul, pk_sub, pk_div, pk_rem, k_mod, nI_clamp, nI_leI, nI_ltI, nI_eq, qin_nI, nI_m1, nN_lt, nN_lt2, nN_le, nN_le2, nN_eq, nN_eq2, qin_nN, Option.some.injEq, Prod.mk.injEq, Sum.inl.injEq, t0, hd1, hsa2, z2]
  rw [st1]
  by_cases qb : dg L c (i + 2) < T 0 0
  case neg =>
    rw [if_pos (Or.inl qb)]
    rw [if_neg qb] at hd2
    refine ⟨qup S 111 3 (nI (i + 2)), ?_, qup_s .., hk _, hk1 _, fun T2 h => no T2 h _⟩
    unfold B8_readStreet_52 B8_readStreet_111 B8_readStreet_131 B8_readStreet_163
    simp (disch := omega) only [if_pos, if_neg, ite_true, ite_false, not_true_eq_false, Bool.false_eq_true, not_false_eq_true, eq_self, obs, ob1, ob2, obx, opx, li_0, li_1, li_2, li_3, li_4, li_5, li_6, li_7, li_8, li_9, li_10, li_14, li_16, li_20, li_21, li_24, li_25, li_32, li_44, li_48, li_57, li_60, li_64, li_81, li_84, li_99, li_100, li_101, li_108, li_111, li_115, li_116, li_120, li_140, li_255, li_500, li_999, li_1000, li_1092, li_1176, li_10000, li_100000, li_1000000, li_N, li_M, nI_add, pk_mul, pk_sub, pk_div, pk_rem, k_mod, nI_clamp, nI_leI, nI_ltI, nI_eq, qin_nI, nI_m1, nN_lt, nN_lt2, nN_le, nN_le2, nN_eq, nN_eq2, qin_nN, Option.some.injEq, Prod.mk.injEq, Sum.inl.injEq, hd2, isO_n]
  rw [if_pos qb, qup_qup, Nat.add_assoc] at hd2
  have hj := m_j (n := n) kr_113 (hT1 (nI (i + 3))) hv (show dg L c (i + 1) < 9 by omega) (show dg L c (i + 2) < 9 by omega) hn
  by_cases q3 : dg L c (i + 1) = dg L c (i + 2) ∨ tj T (dg L c (i + 1)) (dg L c (i + 2)) ≠ nN
  · rw [if_pos (Or.inr q3)]
    refine ⟨qup S 111 3 (nI (i + 2)), ?_, qup_s .., hk _, hk1 _, fun T2 h => no T2 h _⟩
    unfold B8_readStreet_52 B8_readStreet_97 B8_readStreet_111 B8_readStreet_131 B8_readStreet_163
    by_cases q4 : dg L c (i + 1) = dg L c (i + 2)
    · simp (disch := omega) only [if_pos, if_neg, ite_true, ite_false, not_true_eq_false, Bool.false_eq_true, not_false_eq_true, eq_self, obs, ob1, ob2, obx, opx, li_0, li_1, li_2, li_3, li_4, li_5, li_6, li_7, li_8, li_9, li_10, li_14, li_16, li_20, li_21, li_24, li_25, li_32, li_44, li_48, li_57, li_60, li_64, li_81, li_84, li_99, li_100, li_101, li_108, li_111, li_115, li_116, li_120, li_140, li_255, li_500, li_999, li_1000, li_1092, li_1176, li_10000, li_100000, li_1000000, li_N, li_M, nI_add, pk_mul, pk_sub, pk_div, pk_rem, k_mod, nI_clamp, nI_leI, nI_ltI, nI_eq, qin_nI, nI_m1, nN_lt, nN_lt2, nN_le, nN_le2, nN_eq, nN_eq2, qin_nN, Option.some.injEq, Prod.mk.injEq, Sum.inl.injEq, hd2, isO_n, qup_s, a32, qup_qup]
    · have q5 : ¬ tj T (dg L c (i + 1)) (dg L c (i + 2)) = nN := q3.resolve_left q4
      simp (disch := omega) only [if_pos, if_neg, ite_true, ite_false, not_true_eq_false, Bool.false_eq_true, not_false_eq_true, eq_self, obs, ob1, ob2, obx, opx, li_0, li_1, li_2, li_3, li_4, li_5, li_6, li_7, li_8, li_9, li_10, li_14, li_16, li_20, li_21, li_24, li_25, li_32, li_44, li_48, li_57, li_60, li_64, li_81, li_84, li_99, li_100, li_101, li_108, li_111, li_115, li_116, li_120, li_140, li_255, li_500, li_999, li_1000, li_1092, li_1176, li_10000, li_100000, li_1000000, li_N, li_M, nI_add, pk_mul, pk_sub, pk_div, pk_rem, k_mod, nI_clamp, nI_leI, nI_ltI, nI_eq, qin_nI, nI_m1, nN_lt, nN_lt2, nN_le, nN_le2, nN_eq, nN_eq2, qin_nN, Option.some.injEq, Prod.mk.injEq, Sum.inl.injEq, hd2, isO_n, qup_s, a32, qup_qup, hj, q5]
  have qab : ¬ dg L c (i + 1) = dg L c (i + 2) := fun w => q3 (Or.inl w)
  have qt : tj T (dg L c (i + 1)) (dg L c (i + 2)) = nN := Classical.byContradiction fun w => q3 (Or.inr w)
  rw [if_neg (fun w => w.elim (fun v => v qb) q3)]
  rw [qt] at hj
  have hd3 := m_dig (lo := 0) (hi := 9) (hx1 (nI (i + 3))) ok (qup_s ..) (by omega) (by omega) (by omega)
  by_cases qc : dg L c (i + 3) < 10
  case neg =>
    rw [if_pos qc]
    rw [if_neg (by omega)] at hd3
    refine ⟨qup S 111 3 (nI (i + 3)), ?_, qup_s .., hk _, hk1 _, fun T2 h => no T2 h _⟩
    unfold B8_readStreet_52 B8_readStreet_111 B8_readStreet_131 B8_readStreet_163
    simp (disch := omega) only [if_pos, if_neg, ite_true, ite_false, not_true_eq_false, Bool.false_eq_true, not_false_eq_true, eq_self, obs, ob1, ob2, obx, opx, li_0, li_1, li_2, li_3, li_4, li_5, li_6, li_7, li_8, li_9, li_10, li_14, li_16, li_20, li_21, li_24, li_25, li_32, li_44, li_48, li_57, li_60, li_64, li_81, li_84, li_99, li_100, li_101, li_108, li_111, li_115, li_116, li_120, li_140, li_255, li_500, li_999, li_1000, li_1092, li_1176, li_10000, li_100000, li_1000000, li_N, li_M, nI_add, pk_mul, pk_sub, pk_div, pk_rem, k_mod, nI_clamp, nI_leI, nI_ltI, nI_eq, qin_nI, nI_m1, nN_lt, nN_lt2, nN_le, nN_le2, nN_eq, nN_eq2, qin_nN, Option.some.injEq, Prod.mk.injEq, Sum.inl.injEq, hd2, isO_n, hj, hd3]
  rw [if_neg (fun v => v qc)]
  rw [if_pos ⟨by omega, by omega⟩, qup_qup, Nat.add_assoc] at hd3
  have st2 : B8_readStreet_52 n (nI (T 0 0)) (nI (dg L c (i + 1))) (qup S 111 3 (nI (i + 2))) = B8_readStreet_131 n (nI (dg L c (i + 1))) (nI (dg L c (i + 2))) (nI (dg L c (i + 3))) (qup S 111 3 (nI (i + 4))) := by
    unfold B8_readStreet_52 B8_readStreet_111
    simp (disch := omega) only [if_pos, if_neg, ite_true, ite_false, not_true_eq_false, Bool.false_eq_true, not_false_eq_true, eq_self, obs, ob1, ob2, obx, opx, li_0, li_1, li_2, li_3, li_4, li_5, li_6, li_7, li_8, li_9, li_10, li_14, li_16, li_20, li_21, li_24, li_25, li_32, li_44, li_48, li_57, li_60, li_64, li_81, li_84, li_99, li_100, li_101, li_108, li_111, li_115, li_116, li_120, li_140, li_255, li_500, li_999, li_1000, li_1092, li_1176, li_10000, li_100000, li_1000000, li_N, li_M, nI_add, pk_mul, pk_sub, pk_div, pk_rem, k_mod, nI_clamp, nI_leI, nI_ltI, nI_eq, qin_nI, nI_m1, nN_lt, nN_lt2, nN_le, nN_le2, nN_eq, nN_eq2, qin_nN, Option.some.injEq, Prod.mk.injEq, Sum.inl.injEq, hd2, hj, hd3]
  rw [st2]
  by_cases qd : ¬ dg L c (i + 4) < 10 ∨ dg L c (i + 3) + dg L c (i + 4) = 0
  · rw [if_pos qd]
    refine ⟨qup S 111 3 (nI (i + 4)), ?_, qup_s .., hk _, hk1 _, fun T2 h => no T2 h _⟩
    unfold B8_readStreet_131 B8_readStreet_158 B8_readStreet_163
    by_cases w : dg L c (i + 3) = 0
    · have hd4 := m_dig (lo := 1) (hi := 9) (hx1 (nI (i + 4))) ok (qup_s ..) (by omega) (by omega) (by omega)
      rw [if_neg (by omega)] at hd4
      simp (disch := omega) only [if_pos, if_neg, ite_true, ite_false, not_true_eq_false, Bool.false_eq_true, not_false_eq_true, eq_self, obs, ob1, ob2, obx, opx, li_0, li_1, li_2, li_3, li_4, li_5, li_6, li_7, li_8, li_9, li_10, li_14, li_16, li_20, li_21, li_24, li_25, li_32, li_44, li_48, li_57, li_60, li_64, li_81, li_84, li_99, li_100, li_101, li_108, li_111, li_115, li_116, li_120, li_140, li_255, li_500, li_999, li_1000, li_1092, li_1176, li_10000, li_100000, li_1000000, li_N, li_M, nI_add, pk_mul, pk_sub, pk_div, pk_rem, k_mod, nI_clamp, nI_leI, nI_ltI, nI_eq, qin_nI, nI_m1, nN_lt, nN_lt2, nN_le, nN_le2, nN_eq, nN_eq2, qin_nN, Option.some.injEq, Prod.mk.injEq, Sum.inl.injEq, w, hd4, isO_n]
    · have hd4 := m_dig (lo := 0) (hi := 9) (hx1 (nI (i + 4))) ok (qup_s ..) (by omega) (by omega) (by omega)
      rw [if_neg (by omega)] at hd4
      simp (disch := omega) only [if_pos, if_neg, ite_true, ite_false, not_true_eq_false, Bool.false_eq_true, not_false_eq_true, eq_self, obs, ob1, ob2, obx, opx, li_0, li_1, li_2, li_3, li_4, li_5, li_6, li_7, li_8, li_9, li_10, li_14, li_16, li_20, li_21, li_24, li_25, li_32, li_44, li_48, li_57, li_60, li_64, li_81, li_84, li_99, li_100, li_101, li_108, li_111, li_115, li_116, li_120, li_140, li_255, li_500, li_999, li_1000, li_1092, li_1176, li_10000, li_100000, li_1000000, li_N, li_M, nI_add, pk_mul, pk_sub, pk_div, pk_rem, k_mod, nI_clamp, nI_leI, nI_ltI, nI_eq, qin_nI, nI_m1, nN_lt, nN_lt2, nN_le, nN_le2, nN_eq, nN_eq2, qin_nN, Option.some.injEq, Prod.mk.injEq, Sum.inl.injEq, hd4, isO_n]
  rw [if_neg qd]
  have st3 : B8_readStreet_131 n (nI (dg L c (i + 1))) (nI (dg L c (i + 2))) (nI (dg L c (i + 3))) (qup S 111 3 (nI (i + 4))) = B8_readStreet_163 n (nI (dg L c (i + 1))) (nI (dg L c (i + 2))) (nI (dg L c (i + 3))) (nI (dg L c (i + 4))) (qup S 111 3 (nI (i + 5))) := by
    unfold B8_readStreet_131 B8_readStreet_158
    by_cases w : dg L c (i + 3) = 0
    · have hd4 := m_dig (lo := 1) (hi := 9) (hx1 (nI (i + 4))) ok (qup_s ..) (by omega) (by omega) (by omega)
      rw [if_pos ⟨by omega, by omega⟩, qup_qup, Nat.add_assoc] at hd4
      simp (disch := omega) only [if_pos, if_neg, ite_true, ite_false, not_true_eq_false, Bool.false_eq_true, not_false_eq_true, eq_self, obs, ob1, ob2, obx, opx, li_0, li_1, li_2, li_3, li_4, li_5, li_6, li_7, li_8, li_9, li_10, li_14, li_16, li_20, li_21, li_24, li_25, li_32, li_44, li_48, li_57, li_60, li_64, li_81, li_84, li_99, li_100, li_101, li_108, li_111, li_115, li_116, li_120, li_140, li_255, li_500, li_999, li_1000, li_1092, li_1176, li_10000, li_100000, li_1000000, li_N, li_M, nI_add, pk_mul, pk_sub, pk_div, pk_rem, k_mod, nI_clamp, nI_leI, nI_ltI, nI_eq, qin_nI, nI_m1, nN_lt, nN_lt2, nN_le, nN_le2, nN_eq, nN_eq2, qin_nN, Option.some.injEq, Prod.mk.injEq, Sum.inl.injEq, w, hd4]
    · have hd4 := m_dig (lo := 0) (hi := 9) (hx1 (nI (i + 4))) ok (qup_s ..) (by omega) (by omega) (by omega)
      rw [if_pos ⟨by omega, by omega⟩, qup_qup, Nat.add_assoc] at hd4
      simp (disch := omega) only [if_pos, if_neg, ite_true, ite_false, not_true_eq_false, Bool.false_eq_true, not_false_eq_true, eq_self, obs, ob1, ob2, obx, opx, li_0, li_1, li_2, li_3, li_4, li_5, li_6, li_7, li_8, li_9, li_10, li_14, li_16, li_20, li_21, li_24, li_25, li_32, li_44, li_48, li_57, li_60, li_64, li_81, li_84, li_99, li_100, li_101, li_108, li_111, li_115, li_116, li_120, li_140, li_255, li_500, li_999, li_1000, li_1092, li_1176, li_10000, li_100000, li_1000000, li_N, li_M, nI_add, pk_mul, pk_sub, pk_div, pk_rem, k_mod, nI_clamp, nI_leI, nI_ltI, nI_eq, qin_nI, nI_m1, nN_lt, nN_lt2, nN_le, nN_le2, nN_eq, nN_eq2, qin_nN, Option.some.injEq, Prod.mk.injEq, Sum.inl.injEq, hd4]
  rw [st3]
  have hv2 := vK_add (l := 10 * dg L c (i + 3) + dg L c (i + 4)) hv (by omega) (by omega) qa qb qab (by omega) (by omega) qt
  obtain ⟨S5, e5, t5, k5⟩ := m_build (a := dg L c (i + 1)) (b := dg L c (i + 2)) (l := 10 * dg L c (i + 3) + dg L c (i + 4)) kr_113 (hT1 (nI (i + 5))) (by omega)
  have kk5 : kp [111, 113] S S5 := kp_tr (hk _) k5 (fun _ h => h) (by simp)
  have kp5 : k1 [3] S S5 := k1_tr (hk1 (nI (i + 5))) (k1_kp (Q := [3]) k5 (by decide)) (fun _ h => h) (fun _ h => h)
  have x5 : mX S5 L c := by
    unfold mX
    rw [kp5 2 (by decide), kk5 112 (by decide)]
    exact hx
  have a5 : S5 111 3 = nI (i + 5) := by
    rw [k5 111 (by decide)]
    exact qup_s ..
  have w1 := x5.1
  unfold B8_readStreet_163
  by_cases q6 : i + 5 < L ∧ c (i + 5) = 120
  · rw [if_pos q6]
    have w2 := x5.2 _ q6.1
    rw [q6.2] at w2
    have hs5 := isM_st (x := 4) (s := T 0 1) t5 (Or.inr rfl) (by rw [tA_01]; omega) (by rw [tA_01]; omega) 1
    rw [if_neg (by omega)] at hs5
    refine ⟨qup (qup S5 113 (64 + T 0 1) (nI 1)) 111 3 (nI (i + 6)), ?_, qup_s .., kp_up (kp_up kk5 (by simp)) (by simp), k1_up (k1_uo kp5 (by omega)) (by simp), fun T2 h => ?_⟩
    · simp (disch := omega) only [if_pos, if_neg, ite_true, ite_false, not_true_eq_false, Bool.false_eq_true, not_false_eq_true, eq_self, obs, ob1, ob2, obx, opx, li_0, li_1, li_2, li_3, li_4, li_5, li_6, li_7, li_8, li_9, li_10, li_14, li_16, li_20, li_21, li_24, li_25, li_32, li_44, li_48, li_57, li_60, li_64, li_81, li_84, li_99, li_100, li_101, li_108, li_111, li_115, li_116, li_120, li_140, li_255, li_500, li_999, li_1000, li_1092, li_1176, li_10000, li_100000, li_1000000, li_N, li_M, nI_add, pk_mul, pk_sub, pk_div, pk_rem, k_mod, nI_clamp, nI_leI, nI_ltI, nI_eq, qin_nI, nI_m1, nN_lt, nN_lt2, nN_le, nN_le2, nN_eq, nN_eq2, qin_nN, Option.some.injEq, Prod.mk.injEq, Sum.inl.injEq, e5, w1, a5, w2, isO_s, qup_o, Nat.add_assoc]
    · cases h
      exact isM_cg hs5 (qup_o _ _ _ (by omega))
  · rw [if_neg q6]
    refine ⟨S5, ?_, a5, kk5, kp5, fun T2 h => ?_⟩
    · by_cases w : i + 5 < L
      · have w2 := x5.2 _ w
        have w3 : ¬ c (i + 5) = 120 := fun v => q6 ⟨w, v⟩
        have w4 := ok.2 _ w
        simp (disch := omega) only [if_pos, if_neg, ite_true, ite_false, not_true_eq_false, Bool.false_eq_true, not_false_eq_true, eq_self, obs, ob1, ob2, obx, opx, li_0, li_1, li_2, li_3, li_4, li_5, li_6, li_7, li_8, li_9, li_10, li_14, li_16, li_20, li_21, li_24, li_25, li_32, li_44, li_48, li_57, li_60, li_64, li_81, li_84, li_99, li_100, li_101, li_108, li_111, li_115, li_116, li_120, li_140, li_255, li_500, li_999, li_1000, li_1092, li_1176, li_10000, li_100000, li_1000000, li_N, li_M, nI_add, pk_mul, pk_sub, pk_div, pk_rem, k_mod, nI_clamp, nI_leI, nI_ltI, nI_eq, qin_nI, nI_m1, nN_lt, nN_lt2, nN_le, nN_le2, nN_eq, nN_eq2, qin_nN, Option.some.injEq, Prod.mk.injEq, Sum.inl.injEq, e5, w1, a5, w2, isO_s]
      · simp (disch := omega) only [if_pos, if_neg, ite_true, ite_false, not_true_eq_false, Bool.false_eq_true, not_false_eq_true, eq_self, obs, ob1, ob2, obx, opx, li_0, li_1, li_2, li_3, li_4, li_5, li_6, li_7, li_8, li_9, li_10, li_14, li_16, li_20, li_21, li_24, li_25, li_32, li_44, li_48, li_57, li_60, li_64, li_81, li_84, li_99, li_100, li_101, li_108, li_111, li_115, li_116, li_120, li_140, li_255, li_500, li_999, li_1000, li_1092, li_1176, li_10000, li_100000, li_1000000, li_N, li_M, nI_add, pk_mul, pk_sub, pk_div, pk_rem, k_mod, nI_clamp, nI_leI, nI_ltI, nI_eq, qin_nI, nI_m1, nN_lt, nN_lt2, nN_le, nN_le2, nN_eq, nN_eq2, qin_nN, Option.some.injEq, Prod.mk.injEq, Sum.inl.injEq, e5, w1, a5, isO_s]
    · cases h
      exact t5
end QMST
