/-! ERROR POSITION OF A TOWN, LOAD -/
section QLOAD
variable {L : Nat} {c : Nat → Nat} {T : Tn} {hc : Nat} {H : Nat → Tn} {F : Nat → Nat} {K : Nat → Tn} {S : qSt} {n : Nat}
theorem RM_rd {S S2 : qSt} {P Q : List Nat} (h : RM S L c T hc H F K) (k : kp P S S2) (k2 : k1 Q S S2) (hP : ∀ x ∈ P, x ≤ 111 ∨ x = 113 ∨ x = 115 ∨ 120 ≤ x) (h2 : 2 ∉ Q) (h8 : 8 ∉ Q) (hP2 : ∀ x ∈ P, 110 < x ∧ x ≠ 126) : RM S2 L c T hc H F K ∧ kM S S2 := ⟨RM_kp h k k2 hP h2 h8, kM_kp k hP2⟩
theorem k_errT (h : Rel S) (hn : 100000000 ≤ n) : okc (ob2 (F7_errorPosition n 0 S) fun r3 S4 => ob2 (F8_errorPosition n 0 S4) fun r6 S7 => if r3 = r6 then (some S7) else (none)) := by
  obtain ⟨L, c, T, hc, H, F, K, hR, rm, ok⟩ := h
  have hL := ok.1
  obtain ⟨S1, e1, k1, -⟩ := c_rdt (n := n) hR.1 ⟨ok.1, ok.2.1⟩ (by omega)
  have rm1 := RM_kC rm (kC_kp k1 (by simp))
  obtain ⟨S2, e2, a2, k2, kk2, -⟩ := m_rdt (n := n) rm1.1 ⟨ok.1, ok.2.1⟩ (by omega)
  obtain ⟨g1, g2⟩ := RM_rd rm1 k2 kk2 (by simp) (by decide) (by decide) (by simp)
  refine ⟨S2, ?_, L, c, T, hc, H, F, K, RC_kM (RC_kp hR k1 (by simp)) g2, g1, ok⟩
  obtain ⟨r1, -⟩ := rdT_ok (L := L) (c := c)
  unfold F7_errorPosition F8_errorPosition B8_errorPosition_15
  cases z : (rdT L c).2 with
  | none =>
    rw [rI_n z] at e1
    rw [z, isO_n] at e2
    simp (disch := omega) only [if_pos, if_neg, ite_true, ite_false, not_true_eq_false, Bool.false_eq_true, not_false_eq_true, eq_self, obs, ob1, ob2, obx, opx, li_0, li_1, li_2, li_3, li_4, li_5, li_6, li_7, li_8, li_9, li_10, li_14, li_16, li_20, li_21, li_24, li_25, li_32, li_44, li_48, li_57, li_60, li_64, li_81, li_84, li_99, li_100, li_101, li_108, li_111, li_115, li_116, li_120, li_140, li_255, li_500, li_999, li_1000, li_1092, li_1176, li_10000, li_100000, li_1000000, li_N, li_M, nI_add, pk_mul, pk_sub, pk_div, pk_rem, k_mod, nI_clamp, nI_leI, nI_ltI, nI_eq, qin_nI, nI_m1, nN_lt, nN_lt2, nN_le, nN_le2, nN_eq, nN_eq2, qin_nN, Option.some.injEq, Prod.mk.injEq, Sum.inl.injEq, e1, e2, a2]
  | some T2 =>
    rw [rI_s z] at e1
    rw [z, isO_s] at e2
    simp (disch := omega) only [if_pos, if_neg, ite_true, ite_false, not_true_eq_false, Bool.false_eq_true, not_false_eq_true, eq_self, obs, ob1, ob2, obx, opx, li_0, li_1, li_2, li_3, li_4, li_5, li_6, li_7, li_8, li_9, li_10, li_14, li_16, li_20, li_21, li_24, li_25, li_32, li_44, li_48, li_57, li_60, li_64, li_81, li_84, li_99, li_100, li_101, li_108, li_111, li_115, li_116, li_120, li_140, li_255, li_500, li_999, li_1000, li_1092, li_1176, li_10000, li_100000, li_1000000, li_N, li_M, nI_add, pk_mul, pk_sub, pk_div, pk_rem, k_mod, nI_clamp, nI_leI, nI_ltI, nI_eq, qin_nI, nI_m1, nN_lt, nN_lt2, nN_le, nN_le2, nN_eq, nN_eq2, qin_nN, Option.some.injEq, Prod.mk.injEq, Sum.inl.injEq, e1, e2, a2]
theorem c_empty (hn : 100 ≤ n) : F3_emptyAll n S = some (qup (qup S 92 0 (nI 0)) 92 1 (nI 0)) := by
  obtain ⟨g, rfl⟩ : ∃ g, n = g + 1 + 1 + 1 := ⟨n - 3, by omega⟩
  unfold F3_emptyAll
  rw [B3_emptyAll_2, show ((0 : Int32) &&& 1) = nI 0 from rfl]
  simp (disch := omega) only [if_pos, if_neg, ite_true, ite_false, not_true_eq_false, Bool.false_eq_true, not_false_eq_true, eq_self, obs, ob1, ob2, obx, opx, li_0, li_1, li_2, li_3, li_4, li_5, li_6, li_7, li_8, li_9, li_10, li_14, li_16, li_20, li_21, li_24, li_25, li_32, li_44, li_48, li_57, li_60, li_64, li_81, li_84, li_99, li_100, li_101, li_108, li_111, li_115, li_116, li_120, li_140, li_255, li_500, li_999, li_1000, li_1092, li_1176, li_10000, li_100000, li_1000000, li_N, li_M, nI_add, pk_mul, pk_sub, pk_div, pk_rem, k_mod, nI_clamp, nI_leI, nI_ltI, nI_eq, qin_nI, nI_m1, nN_lt, nN_lt2, nN_le, nN_le2, nN_eq, nN_eq2, qin_nN, Option.some.injEq, Prod.mk.injEq, Sum.inl.injEq]
  rw [B3_emptyAll_2, show ((0 : Int32) &&& 1) = nI 0 from rfl]
  simp (disch := omega) only [if_pos, if_neg, ite_true, ite_false, not_true_eq_false, Bool.false_eq_true, not_false_eq_true, eq_self, obs, ob1, ob2, obx, opx, li_0, li_1, li_2, li_3, li_4, li_5, li_6, li_7, li_8, li_9, li_10, li_14, li_16, li_20, li_21, li_24, li_25, li_32, li_44, li_48, li_57, li_60, li_64, li_81, li_84, li_99, li_100, li_101, li_108, li_111, li_115, li_116, li_120, li_140, li_255, li_500, li_999, li_1000, li_1092, li_1176, li_10000, li_100000, li_1000000, li_N, li_M, nI_add, pk_mul, pk_sub, pk_div, pk_rem, k_mod, nI_clamp, nI_leI, nI_ltI, nI_eq, qin_nI, nI_m1, nN_lt, nN_lt2, nN_le, nN_le2, nN_eq, nN_eq2, qin_nN, Option.some.injEq, Prod.mk.injEq, Sum.inl.injEq, Nat.zero_add]
  rw [B3_emptyAll_2]
  simp (disch := omega) only [if_pos, if_neg, ite_true, ite_false, not_true_eq_false, Bool.false_eq_true, not_false_eq_true, eq_self, obs, ob1, ob2, obx, opx, li_0, li_1, li_2, li_3, li_4, li_5, li_6, li_7, li_8, li_9, li_10, li_14, li_16, li_20, li_21, li_24, li_25, li_32, li_44, li_48, li_57, li_60, li_64, li_81, li_84, li_99, li_100, li_101, li_108, li_111, li_115, li_116, li_120, li_140, li_255, li_500, li_999, li_1000, li_1092, li_1176, li_10000, li_100000, li_1000000, li_N, li_M, nI_add, pk_mul, pk_sub, pk_div, pk_rem, k_mod, nI_clamp, nI_leI, nI_ltI, nI_eq, qin_nI, nI_m1, nN_lt, nN_lt2, nN_le, nN_le2, nN_eq, nN_eq2, qin_nN, Option.some.injEq, Prod.mk.injEq, Sum.inl.injEq]
theorem k_load (h : Rel S) (hn : 100000000 ≤ n) : okc (CC (FL_load n S) (F8_load n)) := by
  obtain ⟨L, c, T, hc, H, F, K, hR, rm, ok⟩ := h
  have okx : okX L c := ⟨ok.1, ok.2.1⟩
  have hL := ok.1
  obtain ⟨x1, x2, x3, x4, x5⟩ := kx_114
  obtain ⟨S1, e1, k1, t1⟩ := c_rdt (n := n) hR.1 okx (by omega)
  have hR1 := RC_kp hR k1 (by simp)
  have kC1 := kC_kp k1 (by simp)
  obtain ⟨r1, rv⟩ := rdT_ok (L := L) (c := c)
  unfold FL_load
  cases z : (rdT L c).2 with
  | none =>
    rw [rI_n z] at e1
    refine okc_x (k := 1) (w := 1) rm ⟨S1, ?_, hR1, kC1⟩ (fun S => by simp (disch := omega) only [if_pos, if_neg, ite_true, ite_false, not_true_eq_false, Bool.false_eq_true, not_false_eq_true, eq_self, obs, ob1, ob2, obx, opx, li_0, li_1, li_2, li_3, li_4, li_5, li_6, li_7, li_8, li_9, li_10, li_14, li_16, li_20, li_21, li_24, li_25, li_32, li_44, li_48, li_57, li_60, li_64, li_81, li_84, li_99, li_100, li_101, li_108, li_111, li_115, li_116, li_120, li_140, li_255, li_500, li_999, li_1000, li_1092, li_1176, li_10000, li_100000, li_1000000, li_N, li_M, nI_add, pk_mul, pk_sub, pk_div, pk_rem, k_mod, nI_clamp, nI_leI, nI_ltI, nI_eq, qin_nI, nI_m1, nN_lt, nN_lt2, nN_le, nN_le2, nN_eq, nN_eq2, qin_nN, Option.some.injEq, Prod.mk.injEq, Sum.inl.injEq]) (by omega) (by omega) (fun S rm => ?_) ok
    · unfold F7_load
      simp (disch := omega) only [if_pos, if_neg, ite_true, ite_false, not_true_eq_false, Bool.false_eq_true, not_false_eq_true, eq_self, obs, ob1, ob2, obx, opx, li_0, li_1, li_2, li_3, li_4, li_5, li_6, li_7, li_8, li_9, li_10, li_14, li_16, li_20, li_21, li_24, li_25, li_32, li_44, li_48, li_57, li_60, li_64, li_81, li_84, li_99, li_100, li_101, li_108, li_111, li_115, li_116, li_120, li_140, li_255, li_500, li_999, li_1000, li_1092, li_1176, li_10000, li_100000, li_1000000, li_N, li_M, nI_add, pk_mul, pk_sub, pk_div, pk_rem, k_mod, nI_clamp, nI_leI, nI_ltI, nI_eq, qin_nI, nI_m1, nN_lt, nN_lt2, nN_le, nN_le2, nN_eq, nN_eq2, qin_nN, Option.some.injEq, Prod.mk.injEq, Sum.inl.injEq, e1]
    · obtain ⟨S2, e2, a2, k2, kk2, -⟩ := m_rdt (n := n) rm.1 okx (by omega)
      obtain ⟨g1, g2⟩ := RM_rd rm k2 kk2 (by simp) (by decide) (by decide) (by simp)
      rw [z, isO_n] at e2
      obtain ⟨f1, f2, f3, -⟩ := rq g1 1
      refine ⟨nI 0, qup S2 111 0 (nI 1), ?_, f1, kM_tr g2 f2, f3⟩
      unfold F8_load B8_load_13
      simp (disch := omega) only [if_pos, if_neg, ite_true, ite_false, not_true_eq_false, Bool.false_eq_true, not_false_eq_true, eq_self, obs, ob1, ob2, obx, opx, li_0, li_1, li_2, li_3, li_4, li_5, li_6, li_7, li_8, li_9, li_10, li_14, li_16, li_20, li_21, li_24, li_25, li_32, li_44, li_48, li_57, li_60, li_64, li_81, li_84, li_99, li_100, li_101, li_108, li_111, li_115, li_116, li_120, li_140, li_255, li_500, li_999, li_1000, li_1092, li_1176, li_10000, li_100000, li_1000000, li_N, li_M, nI_add, pk_mul, pk_sub, pk_div, pk_rem, k_mod, nI_clamp, nI_leI, nI_ltI, nI_eq, qin_nI, nI_m1, nN_lt, nN_lt2, nN_le, nN_le2, nN_eq, nN_eq2, qin_nN, Option.some.injEq, Prod.mk.injEq, Sum.inl.injEq, e2, m_ref_w]
  | some T2 =>
    rw [rI_s z] at e1
    have hv2 := rv T2 z
    obtain ⟨S5, e5, t5, k5⟩ := c_cp (o := 8) (n := n) (t1 T2 z) hv2 (by omega) (by omega) (by omega)
    have kx : ∀ x, x < 8 ∨ 12 < x → S5 x = S1 x := fun x hx => k5 x (by simp only [List.mem_cons, List.not_mem_nil, or_false]; omega)
    obtain ⟨h1, h2, ⟨old, h3, h4, h5, h6⟩, h7⟩ := hR1
    refine okc_r (r := nI (T2 0 1)) (L2 := L) (c2 := c) (T2 := T2) (hc2 := 0) (H2 := H) (F2 := fun _ => 0) (K2 := K) rm ⟨qup (qup (qup S5 18 2 (nI 0)) 92 0 (nI 0)) 92 1 (nI 0), ?_, ⟨?_, ?_, ⟨old, h3, ?_, ?_, fun i hi => absurd hi (Nat.not_lt_zero _)⟩, fun j hj => ⟨?_, fun v => absurd rfl v⟩⟩, ?_⟩ (fun S rm => ?_) ⟨ok.1, ok.2.1, hv2, by omega, fun i hi => absurd hi (Nat.not_lt_zero _), fun j hj => ⟨Nat.zero_le 1, fun v => absurd rfl v⟩⟩
    · have q : (qup (qup (qup S5 18 2 (nI 0)) 92 0 (nI 0)) 92 1 (nI 0)) 8 1 = nI (T2 0 1) := by
        rw [qup_o _ _ _ (by omega), qup_o _ _ _ (by omega), qup_o _ _ _ (by omega)]
        exact t5.2.1
      unfold F7_load F0_forgetAll
      simp (disch := omega) only [if_pos, if_neg, ite_true, ite_false, not_true_eq_false, Bool.false_eq_true, not_false_eq_true, eq_self, obs, ob1, ob2, obx, opx, li_0, li_1, li_2, li_3, li_4, li_5, li_6, li_7, li_8, li_9, li_10, li_14, li_16, li_20, li_21, li_24, li_25, li_32, li_44, li_48, li_57, li_60, li_64, li_81, li_84, li_99, li_100, li_101, li_108, li_111, li_115, li_116, li_120, li_140, li_255, li_500, li_999, li_1000, li_1092, li_1176, li_10000, li_100000, li_1000000, li_N, li_M, nI_add, pk_mul, pk_sub, pk_div, pk_rem, k_mod, nI_clamp, nI_leI, nI_ltI, nI_eq, qin_nI, nI_m1, nN_lt, nN_lt2, nN_le, nN_le2, nN_eq, nN_eq2, qin_nN, Option.some.injEq, Prod.mk.injEq, Sum.inl.injEq, e1, e5, c_empty (n := n) (by omega), q]
    · rw [qup_o _ _ _ (by omega), qup_o _ _ _ (by omega), qup_o _ _ _ (by omega), qup_o _ _ _ (by omega), qup_o _ _ _ (by omega), qup_o _ _ _ (by omega), kx 1 (by omega), kx 2 (by omega)]
      exact h1
    · exact isT_cg t5 (fun x a b => by rw [qup_o _ _ _ (by omega), qup_o _ _ _ (by omega), qup_o _ _ _ (by omega)])
    · rw [qup_o _ _ _ (by omega), qup_o _ _ _ (by omega), qup_k _ _ _ (by omega), kx 18 (by omega)]
      exact h4
    · rw [qup_o _ _ _ (by omega), qup_o _ _ _ (by omega)]
      exact qup_s ..
    · by_cases q : j = 1
      · rw [q]
        exact qup_s ..
      · rw [qup_k _ _ _ q, show j = 0 by omega]
        exact qup_s ..
    · exact kC_up (kC_up (kC_up (kC_tr kC1 (kC_kp k5 (by simp))) (by omega)) (by omega)) (by omega)
    · obtain ⟨S2, e2, a2, k2, kk2, tt2⟩ := m_rdt (n := n) rm.1 okx (by omega)
      obtain ⟨g1, g2⟩ := RM_rd rm k2 kk2 (by simp) (by decide) (by decide) (by simp)
      rw [z, isO_s] at e2
      obtain ⟨f1, f2, f3, -⟩ := rq g1 0
      have u1 : isM (qup S2 111 0 (nI 0)) 113 0 T2 := isM_cg (tt2 T2 z) (qup_o _ _ _ (by omega))
      obtain ⟨S8, e8, u8, k8, -⟩ := m_ct (n := n) (a := 113) (c := 114) (x := 0) (y := 0) (by omega) (by omega) (by omega) (by omega) (by omega) u1 hv2.2.2.1 (by omega)
      obtain ⟨m1, m2, ⟨m3, m4⟩, m5, m6⟩ := f1
      have z111 : S8 111 = (qup S2 111 0 (nI 0)) 111 := k8 111 (by decide)
      refine ⟨qup (qup (qup S8 111 8 (nI 0)) 118 0 (nI 0)) 118 1 (nI 0), ?_, ⟨?_, ?_, ⟨?_, fun i hi => absurd hi (Nat.not_lt_zero _)⟩, fun j hj => ⟨?_, fun v => absurd rfl v⟩, ?_⟩, ?_, ?_⟩
      · have q : (qup (qup (qup S8 111 8 (nI 0)) 118 0 (nI 0)) 118 1 (nI 0)) 114 1 = nI (T2 0 1) := by
          rw [qup_o _ _ _ (by omega), qup_o _ _ _ (by omega), qup_o _ _ _ (by omega)]
          exact u8.2.1
        unfold F8_load B8_load_13 F8_forget
        rw [show ((0 : Int32) &&& 1) = nI 0 from rfl]
        simp (disch := omega) only [if_pos, if_neg, ite_true, ite_false, not_true_eq_false, Bool.false_eq_true, not_false_eq_true, eq_self, obs, ob1, ob2, obx, opx, li_0, li_1, li_2, li_3, li_4, li_5, li_6, li_7, li_8, li_9, li_10, li_14, li_16, li_20, li_21, li_24, li_25, li_32, li_44, li_48, li_57, li_60, li_64, li_81, li_84, li_99, li_100, li_101, li_108, li_111, li_115, li_116, li_120, li_140, li_255, li_500, li_999, li_1000, li_1092, li_1176, li_10000, li_100000, li_1000000, li_N, li_M, nI_add, pk_mul, pk_sub, pk_div, pk_rem, k_mod, nI_clamp, nI_leI, nI_ltI, nI_eq, qin_nI, nI_m1, nN_lt, nN_lt2, nN_le, nN_le2, nN_eq, nN_eq2, qin_nN, Option.some.injEq, Prod.mk.injEq, Sum.inl.injEq, e2, m_ref_0, e8, q]
      · refine ⟨?_, fun i hi => ?_⟩
        · rw [qup_o _ _ _ (by omega), qup_o _ _ _ (by omega), qup_k _ _ _ (by omega), z111]
          exact m1.1
        · rw [qup_o _ _ _ (by omega), qup_o _ _ _ (by omega), qup_o _ _ _ (by omega), k8 112 (by decide)]
          exact m1.2 i hi
      · exact isM_cg u8 (by rw [qup_o _ _ _ (by omega), qup_o _ _ _ (by omega), qup_o _ _ _ (by omega)])
      · rw [qup_o _ _ _ (by omega), qup_o _ _ _ (by omega)]
        exact qup_s ..
      · by_cases q : j = 1
        · rw [q]
          exact qup_s ..
        · rw [qup_k _ _ _ q, show j = 0 by omega]
          exact qup_s ..
      · rw [qup_o _ _ _ (by omega), qup_o _ _ _ (by omega), qup_o _ _ _ (by omega), k8 119 (by decide)]
        exact m6
      · exact kM_up (kM_up (kM_up (kM_tr g2 (kM_tr f2 (kM_kp k8 (by simp)))) (by omega) (by omega)) (by omega) (by omega)) (by omega) (by omega)
      · rw [qup_o _ _ _ (by omega), qup_o _ _ _ (by omega), qup_k _ _ _ (by omega), z111]
        exact f3
end QLOAD
