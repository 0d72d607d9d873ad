/-! A TOWN IS READ, THE MODEL -/
theorem one_and : (nI 1 &&& nI 1 : Int32) = nI 1 := by decide +kernel
theorem zero_and : (nI 0 &&& nI 1 : Int32) = nI 0 := by decide +kernel
section QMTOWN
variable {L : Nat} {c : Nat → Nat}
theorem m_rl0 {S : qSt} {n g : Nat} {v : Int32} : B8_readTown_127 n (g + 1) v (nI 0) S = some (nI 0, S) := by
  rw [B8_readTown_127]
  simp (disch := omega) only [if_pos, if_neg, ite_true, ite_false, not_true_eq_false, Bool.false_eq_true, not_false_eq_true, eq_self, obs, ob1, ob2, obx, opx, li_0, li_1, li_2, li_3, li_4, li_5, li_6, li_7, li_8, li_9, li_10, li_14, li_16, li_20, li_21, li_24, li_25, li_32, li_44, li_48, li_57, li_60, li_64, li_81, li_84, li_99, li_100, li_101, li_108, li_111, li_115, li_116, li_120, li_140, li_255, li_500, li_999, li_1000, li_1092, li_1176, li_10000, li_100000, li_1000000, li_N, li_M, nI_add, pk_mul, pk_sub, pk_div, pk_rem, k_mod, nI_clamp, nI_leI, nI_ltI, nI_eq, qin_nI, nI_m1, nN_lt, nN_lt2, nN_le, nN_le2, nN_eq, nN_eq2, qin_nN, Option.some.injEq, Prod.mk.injEq, Sum.inl.injEq, zero_and]
theorem m_rl {n : Nat} (ok : okX L c) (hn : 100 ≤ n) : ∀ j f S T i, T 0 1 + j = 21 → j + 1 < f → mX S L c → isM S 113 0 T → vT T → i ≤ L → S 111 3 = nI i → ∃ S2, B8_readTown_127 n f (nI (T 0 0)) (nI 1) S = some (nI (isO (rdL L c j T i).2), S2) ∧ S2 111 3 = nI (rdL L c j T i).1 ∧ kp [111, 113] S S2 ∧ k1 [3] S S2 ∧ ∀ T2, (rdL L c j T i).2 = some T2 → isM S2 113 0 T2 := by
  have hL := ok.1
  intro j
  induction j with
  | zero =>
    intro f S T i h1 hf hx hT hv hi h3
    have := hv.2.2.1
    omega
  | succ j ih =>
    intro f S T i h1 hf hx hT hv hi h3
    obtain ⟨g, rfl⟩ : ∃ g, f = g + 1 + 1 := ⟨f - 2, by omega⟩
    have w := hx.1
    have h9 := hv.2.1
    have h2 := hv.1
    have h20 := hv.2.2.1
    have t1 : S 113 1 = nI (T 0 1) := hT.2.1
    rw [B8_readTown_127, rdL]
    by_cases q : L ≤ i
    · rw [if_pos q]
      refine ⟨S, ?_, h3, kp_rfl, k1_rfl, fun T2 h => by cases h; exact hT⟩
      simp (disch := omega) only [if_pos, if_neg, ite_true, ite_false, not_true_eq_false, Bool.false_eq_true, not_false_eq_true, eq_self, obs, ob1, ob2, obx, opx, li_0, li_1, li_2, li_3, li_4, li_5, li_6, li_7, li_8, li_9, li_10, li_14, li_16, li_20, li_21, li_24, li_25, li_32, li_44, li_48, li_57, li_60, li_64, li_81, li_84, li_99, li_100, li_101, li_108, li_111, li_115, li_116, li_120, li_140, li_255, li_500, li_999, li_1000, li_1092, li_1176, li_10000, li_100000, li_1000000, li_N, li_M, nI_add, pk_mul, pk_sub, pk_div, pk_rem, k_mod, nI_clamp, nI_leI, nI_ltI, nI_eq, qin_nI, nI_m1, nN_lt, nN_lt2, nN_le, nN_le2, nN_eq, nN_eq2, qin_nN, Option.some.injEq, Prod.mk.injEq, Sum.inl.injEq, w, h3, one_and, isO_s]
    · rw [if_neg q]
      have w2 := hx.2 i (by omega)
      have w3 := ok.2 i (by omega)
      have hmul : T 0 0 * (T 0 0 - 1) ≤ 9 * 8 := Nat.mul_le_mul h9 (by omega)
      by_cases qe : c i = 115 ∧ ¬ (20 ≤ T 0 1 ∨ T 0 0 * (T 0 0 - 1) ≤ 2 * T 0 1)
      case neg =>
        have e : rdS L c T i = (i, none) := by
          unfold rdS
          rw [if_pos]
          by_cases z : c i = 115
          · exact Or.inr (Classical.byContradiction fun v => qe ⟨z, v⟩)
          · exact Or.inl (fun v => z v.2)
        rw [e, rdB_n rfl]
        refine ⟨S, ?_, h3, kp_rfl, k1_rfl, fun T2 h => by cases h⟩
        unfold B8_readTown_188 B8_readTown_189
        by_cases z : c i = 115
        · by_cases y : 20 ≤ T 0 1
          · simp (disch := omega) only [if_pos, if_neg, ite_true, ite_false, not_true_eq_false, Bool.false_eq_true, not_false_eq_true, eq_self, obs, ob1, ob2, obx, opx, li_0, li_1, li_2, li_3, li_4, li_5, li_6, li_7, li_8, li_9, li_10, li_14, li_16, li_20, li_21, li_24, li_25, li_32, li_44, li_48, li_57, li_60, li_64, li_81, li_84, li_99, li_100, li_101, li_108, li_111, li_115, li_116, li_120, li_140, li_255, li_500, li_999, li_1000, li_1092, li_1176, li_10000, li_100000, li_1000000, li_N, li_M, nI_add, pk_mul, pk_sub, pk_div, pk_rem, k_mod, nI_clamp, nI_leI, nI_ltI, nI_eq, qin_nI, nI_m1, nN_lt, nN_lt2, nN_le, nN_le2, nN_eq, nN_eq2, qin_nN, Option.some.injEq, Prod.mk.injEq, Sum.inl.injEq, w, h3, w2, z, t1, m_rl0, isO_n]
          · have y2 : T 0 0 * (T 0 0 - 1) ≤ 2 * T 0 1 := Classical.byContradiction fun v => qe ⟨z, fun u => u.elim y v⟩
            simp (disch := omega) only [if_pos, if_neg, ite_true, ite_false, not_true_eq_false, Bool.false_eq_true, not_false_eq_true, eq_self, obs, ob1, ob2, obx, opx, li_0, li_1, li_2, li_3, li_4, li_5, li_6, li_7, li_8, li_9, li_10, li_14, li_16, li_20, li_21, li_24, li_25, li_32, li_44, li_48, li_57, li_60, li_64, li_81, li_84, li_99, li_100, li_101, li_108, li_111, li_115, li_116, li_120, li_140, li_255, li_500, li_999, li_1000, li_1092, li_1176, li_10000, li_100000, li_1000000, li_N, li_M, nI_add, pk_mul, pk_sub, pk_div, pk_rem, k_mod, nI_clamp, nI_leI, nI_ltI, nI_eq, qin_nI, nI_m1, nN_lt, nN_lt2, nN_le, nN_le2, nN_eq, nN_eq2, qin_nN, Option.some.injEq, Prod.mk.injEq, Sum.inl.injEq, w, h3, w2, z, t1, m_rl0, isO_n]
        · simp (disch := omega) only [if_pos, if_neg, ite_true, ite_false, not_true_eq_false, Bool.false_eq_true, not_false_eq_true, eq_self, obs, ob1, ob2, obx, opx, li_0, li_1, li_2, li_3, li_4, li_5, li_6, li_7, li_8, li_9, li_10, li_14, li_16, li_20, li_21, li_24, li_25, li_32, li_44, li_48, li_57, li_60, li_64, li_81, li_84, li_99, li_100, li_101, li_108, li_111, li_115, li_116, li_120, li_140, li_255, li_500, li_999, li_1000, li_1092, li_1176, li_10000, li_100000, li_1000000, li_N, li_M, nI_add, pk_mul, pk_sub, pk_div, pk_rem, k_mod, nI_clamp, nI_leI, nI_ltI, nI_eq, qin_nI, nI_m1, nN_lt, nN_lt2, nN_le, nN_le2, nN_eq, nN_eq2, qin_nN, Option.some.injEq, Prod.mk.injEq, Sum.inl.injEq, w, h3, w2, t1, m_rl0, isO_n]
      have q1 : i < L ∧ c i = 115 := ⟨by omega, qe.1⟩
      obtain ⟨r1, r2⟩ := rdS_ok (c := c) hv hi
      have k0 : kp [111, 113] S (qup S 111 3 (nI (i + 1))) := kp_up kp_rfl (by simp)
      have kk0 : k1 [3] S (qup S 111 3 (nI (i + 1))) := k1_up k1_rfl (by simp)
      obtain ⟨S3, e3, a3, k3, kk3, t3⟩ := m_rds (n := n) (mX_kp hx (P := [111]) (kp_up kp_rfl (by simp)) kk0 (by decide) (by decide)) ok (isM_cg hT (qup_o _ _ _ (by omega))) hv (qup_s ..) q1 qe.2 hn
      have k03 : kp [111, 113] S S3 := kp_tr k0 k3 (fun _ h => h) (fun _ h => h)
      have kk03 : k1 [3] S S3 := k1_tr kk0 kk3 (fun _ h => h) (fun _ h => h)
      have y1 : ¬ 20 ≤ T 0 1 := fun v => qe.2 (Or.inl v)
      have y2 : ¬ T 0 0 * (T 0 0 - 1) ≤ 2 * T 0 1 := fun v => qe.2 (Or.inr v)
      have z := qe.1
      cases zz : (rdS L c T i).2 with
      | none =>
        rw [rdB_n zz]
        rw [zz, isO_n] at e3
        refine ⟨S3, ?_, a3, k03, kk03, fun T2 h => by cases h⟩
        unfold B8_readTown_189
        simp (disch := omega) only [if_pos, if_neg, ite_true, ite_false, not_true_eq_false, Bool.false_eq_true, not_false_eq_true, eq_self, obs, ob1, ob2, obx, opx, li_0, li_1, li_2, li_3, li_4, li_5, li_6, li_7, li_8, li_9, li_10, li_14, li_16, li_20, li_21, li_24, li_25, li_32, li_44, li_48, li_57, li_60, li_64, li_81, li_84, li_99, li_100, li_101, li_108, li_111, li_115, li_116, li_120, li_140, li_255, li_500, li_999, li_1000, li_1092, li_1176, li_10000, li_100000, li_1000000, li_N, li_M, nI_add, pk_mul, pk_sub, pk_div, pk_rem, k_mod, nI_clamp, nI_leI, nI_ltI, nI_eq, qin_nI, nI_m1, nN_lt, nN_lt2, nN_le, nN_le2, nN_eq, nN_eq2, qin_nN, Option.some.injEq, Prod.mk.injEq, Sum.inl.injEq, w, h3, w2, z, t1, e3, m_rl0, isO_n]
      | some T3 =>
        obtain ⟨v3, g3, g4, -⟩ := r2 T3 zz
        rw [rdB_s zz]
        rw [zz, isO_s] at e3
        obtain ⟨S4, e4, a4, k4, kk4, t4⟩ := ih (g + 1) S3 T3 _ (by omega) (by omega) (mX_kp hx (P := [111, 113]) k03 kk03 (by decide) (by decide)) (t3 T3 zz) v3 r1 a3
        rw [g4] at e4
        refine ⟨S4, ?_, a4, kp_tr k03 k4 (fun _ h => h) (fun _ h => h), k1_tr kk03 kk4 (fun _ h => h) (fun _ h => h), t4⟩
        unfold B8_readTown_189
        simp (disch := omega) only [if_pos, if_neg, ite_true, ite_false, not_true_eq_false, Bool.false_eq_true, not_false_eq_true, eq_self, obs, ob1, ob2, obx, opx, li_0, li_1, li_2, li_3, li_4, li_5, li_6, li_7, li_8, li_9, li_10, li_14, li_16, li_20, li_21, li_24, li_25, li_32, li_44, li_48, li_57, li_60, li_64, li_81, li_84, li_99, li_100, li_101, li_108, li_111, li_115, li_116, li_120, li_140, li_255, li_500, li_999, li_1000, li_1092, li_1176, li_10000, li_100000, li_1000000, li_N, li_M, nI_add, pk_mul, pk_sub, pk_div, pk_rem, k_mod, nI_clamp, nI_leI, nI_ltI, nI_eq, qin_nI, nI_m1, nN_lt, nN_lt2, nN_le, nN_le2, nN_eq, nN_eq2, qin_nN, Option.some.injEq, Prod.mk.injEq, Sum.inl.injEq, w, h3, w2, z, t1, e3]
        exact e4
theorem m_rdt {S : qSt} {n : Nat} (hx : mX S L c) (ok : okX L c) (hn : 100 ≤ n) : ∃ S2, F8_readTown n S = some (nI (isO (rdT L c).2), S2) ∧ S2 111 3 = nI (rdT L c).1 ∧ kp [111, 113] S S2 ∧ k1 [3] S S2 ∧ ∀ T2, (rdT L c).2 = some T2 → isM S2 113 0 T2 := by
  have hL := ok.1
  have hx1 : ∀ v, mX (qup S 111 3 v) L c := fun v => mX_kp (P := [111]) (Q := [3]) hx (kp_up kp_rfl (by simp)) (k1_up k1_rfl (by simp)) (by decide) (by decide)
  have hk : ∀ v, kp [111, 113] S (qup S 111 3 v) := fun v => kp_up kp_rfl (by simp)
  have hk1 : ∀ v, k1 [3] S (qup S 111 3 v) := fun v => k1_up k1_rfl (by simp)
  have w : ∀ v, (qup S 111 3 v) 111 2 = nI L := fun v => (hx1 v).1
  have d1 := m_dig (lo := 2) (hi := 9) (hx1 (nI 1)) ok (qup_s ..) (by omega) (by omega) (by omega)
  have b1 : dg L c 1 ≤ 10 := dg_le
  unfold rdT rdH
  by_cases q1 : 0 < L ∧ c 0 = 84
  case neg =>
    rw [if_pos q1, rdB_n rfl]
    refine ⟨qup S 111 3 (nI 0), ?_, qup_s .., hk _, hk1 _, fun T2 h => by cases h⟩
    unfold F8_readTown
    by_cases z : L = 0
    · simp (disch := omega) only [if_pos, if_neg, ite_true, ite_false, not_true_eq_false, Bool.false_eq_true, not_false_eq_true, eq_self, obs, ob1, ob2, obx, opx, li_0, li_1, li_2, li_3, li_4, li_5, li_6, li_7, li_8, li_9, li_10, li_14, li_16, li_20, li_21, li_24, li_25, li_32, li_44, li_48, li_57, li_60, li_64, li_81, li_84, li_99, li_100, li_101, li_108, li_111, li_115, li_116, li_120, li_140, li_255, li_500, li_999, li_1000, li_1092, li_1176, li_10000, li_100000, li_1000000, li_N, li_M, nI_add, pk_mul, pk_sub, pk_div, pk_rem, k_mod, nI_clamp, nI_leI, nI_ltI, nI_eq, qin_nI, nI_m1, nN_lt, nN_lt2, nN_le, nN_le2, nN_eq, nN_eq2, qin_nN, Option.some.injEq, Prod.mk.injEq, Sum.inl.injEq, w, z, isO_n]
    · have w2 : (qup S 111 3 (nI 0)) 112 0 = nI (c 0) := (hx1 (nI 0)).2 0 (by omega)
      have w3 := ok.2 0 (by omega)
      have w4 : ¬ c 0 = 84 := fun v => q1 ⟨by omega, v⟩
      simp (disch := omega) only [if_pos, if_neg, ite_true, ite_false, not_true_eq_false, Bool.false_eq_true, not_false_eq_true, eq_self, obs, ob1, ob2, obx, opx, li_0, li_1, li_2, li_3, li_4, li_5, li_6, li_7, li_8, li_9, li_10, li_14, li_16, li_20, li_21, li_24, li_25, li_32, li_44, li_48, li_57, li_60, li_64, li_81, li_84, li_99, li_100, li_101, li_108, li_111, li_115, li_116, li_120, li_140, li_255, li_500, li_999, li_1000, li_1092, li_1176, li_10000, li_100000, li_1000000, li_N, li_M, nI_add, pk_mul, pk_sub, pk_div, pk_rem, k_mod, nI_clamp, nI_leI, nI_ltI, nI_eq, qin_nI, nI_m1, nN_lt, nN_lt2, nN_le, nN_le2, nN_eq, nN_eq2, qin_nN, Option.some.injEq, Prod.mk.injEq, Sum.inl.injEq, w, isO_n, w2]
  rw [if_neg (fun v => v q1)]
  have w2 : (qup S 111 3 (nI 0)) 112 0 = nI 84 := by
    rw [(hx1 (nI 0)).2 0 q1.1, q1.2]
  have st1 : F8_readTown n S = (ob2 (F8_digit (nI 2) (nI 9) (qup S 111 3 (nI 1))) fun r4 S5 => if ¬ r4 = (-999) then (ob1 (F8_clear n 113 r4 S5) fun S7 => ob2 (F8_digit 0 (r4 - 1) S7) fun r9 S10 => if ¬ r9 = (-999) then (ob2 (F8_digit 0 (r4 - 1) S10) fun r12 S13 => if ¬ r12 = r9 then (obs (qup S13 113 (2 : Int32).toNatClampNeg r9) fun S14 => obs (qup S14 113 (3 : Int32).toNatClampNeg r12) fun S15 => if r12 = (-999) then (B8_readTown_125 n r4 0 S15) else (B8_readTown_125 n r4 1 S15)) else (obs (qup S13 111 3 ((S13 111 3) - 1)) fun S23 => some (0, S23))) else (some (0, S10))) else (some (0, S5))) := by
    unfold F8_readTown
    have h0 : ¬ (nI L = nI 0) := fun v => by
      have := nI_inj (by omega) (by omega) v
      omega
    show (if (qup S 111 3 (nI 0)) 111 2 = nI 0 then _ else (if (qup S 111 3 (nI 0)) 112 0 = nI 84 then (ob2 (F8_digit (nI 2) (nI 9) (qup (qup S 111 3 (nI 0)) 111 3 (nI 1))) _) else _)) = _
    rw [w, if_neg h0, w2, if_pos rfl, qup_qup]
  rw [st1]
  by_cases q2 : 2 ≤ dg L c 1 ∧ dg L c 1 ≤ 9
  case neg =>
    rw [if_pos q2, rdB_n rfl]
    rw [if_neg q2] at d1
    refine ⟨qup S 111 3 (nI 1), ?_, qup_s .., hk _, hk1 _, fun T2 h => by cases h⟩
    simp (disch := omega) only [if_pos, if_neg, ite_true, ite_false, not_true_eq_false, Bool.false_eq_true, not_false_eq_true, eq_self, obs, ob1, ob2, obx, opx, li_0, li_1, li_2, li_3, li_4, li_5, li_6, li_7, li_8, li_9, li_10, li_14, li_16, li_20, li_21, li_24, li_25, li_32, li_44, li_48, li_57, li_60, li_64, li_81, li_84, li_99, li_100, li_101, li_108, li_111, li_115, li_116, li_120, li_140, li_255, li_500, li_999, li_1000, li_1092, li_1176, li_10000, li_100000, li_1000000, li_N, li_M, nI_add, pk_mul, pk_sub, pk_div, pk_rem, k_mod, nI_clamp, nI_leI, nI_ltI, nI_eq, qin_nI, nI_m1, nN_lt, nN_lt2, nN_le, nN_le2, nN_eq, nN_eq2, qin_nN, Option.some.injEq, Prod.mk.injEq, Sum.inl.injEq, d1, isO_n]
  rw [if_neg (fun v => v q2)]
  rw [if_pos q2, qup_qup] at d1
  obtain ⟨S5, e5, k5, c50, c5⟩ := m_cl (S := qup S 111 3 (nI (1 + 1))) (n := n) (m := 113) (c := dg L c 1) kr_113 hn
  have k05 : kp [111, 113] S S5 := kp_tr (hk _) k5 (fun _ h => h) (by simp)
  have kk05 : k1 [3] S S5 := k1_tr (hk1 _) (k1_kp (Q := [3]) k5 (by decide)) (fun _ h => h) (fun _ h => h)
  have hx5 : ∀ v, mX (qup S5 111 3 v) L c := fun v => mX_kp (P := [111, 113]) (Q := [3]) hx (kp_up k05 (by simp)) (k1_up kk05 (by simp)) (by decide) (by decide)
  have hx50 : mX S5 L c := mX_kp (P := [111, 113]) (Q := [3]) hx k05 kk05 (by decide) (by decide)
  have a5 : S5 111 3 = nI 2 := by
    rw [k5 111 (by decide)]
    exact qup_s ..
  have hk5 : ∀ v, kp [111, 113] S (qup S5 111 3 v) := fun v => kp_up k05 (by simp)
  have hkk5 : ∀ v, k1 [3] S (qup S5 111 3 v) := fun v => k1_up kk05 (by simp)
  have d2 := m_digC (m := dg L c 1) hx50 ok a5 (by omega) (by omega) (by omega)
  have d3 := m_digC (m := dg L c 1) (hx5 (nI 3)) ok (qup_s ..) (by omega) (by omega) (by omega)
  by_cases q3 : dg L c 2 < dg L c 1
  case neg =>
    rw [if_pos q3, rdB_n rfl]
    rw [if_neg q3] at d2
    refine ⟨S5, ?_, a5, k05, kk05, fun T2 h => by cases h⟩
    simp (disch := omega) only [if_pos, if_neg, ite_true, ite_false, not_true_eq_false, Bool.false_eq_true, not_false_eq_true, eq_self, obs, ob1, ob2, obx, opx, li_0, li_1, li_2, li_3, li_4, li_5, li_6, li_7, li_8, li_9, li_10, li_14, li_16, li_20, li_21, li_24, li_25, li_32, li_44, li_48, li_57, li_60, li_64, li_81, li_84, li_99, li_100, li_101, li_108, li_111, li_115, li_116, li_120, li_140, li_255, li_500, li_999, li_1000, li_1092, li_1176, li_10000, li_100000, li_1000000, li_N, li_M, nI_add, pk_mul, pk_sub, pk_div, pk_rem, k_mod, nI_clamp, nI_leI, nI_ltI, nI_eq, qin_nI, nI_m1, nN_lt, nN_lt2, nN_le, nN_le2, nN_eq, nN_eq2, qin_nN, Option.some.injEq, Prod.mk.injEq, Sum.inl.injEq, d1, isO_n, e5, d2]
  rw [if_neg (fun v => v q3)]
  rw [if_pos q3] at d2
  by_cases q4 : dg L c 3 < dg L c 1
  case neg =>
    rw [if_pos (Or.inl q4), rdB_n rfl]
    rw [if_neg q4] at d3
    refine ⟨qup (qup (qup S5 111 3 (nI 3)) 113 2 (nI (dg L c 2))) 113 3 nN, ?_, ?_, ?_, ?_, fun T2 h => by cases h⟩
    · unfold B8_readTown_125
      obtain ⟨g, rfl⟩ : ∃ g, n = g + 1 := ⟨n - 1, by omega⟩
      simp (disch := omega) only [if_pos, if_neg, ite_true, ite_false, not_true_eq_false, Bool.false_eq_true, not_false_eq_true, eq_self, obs, ob1, ob2, obx, opx, li_0, li_1, li_2, li_3, li_4, li_5, li_6, li_7, li_8, li_9, li_10, li_14, li_16, li_20, li_21, li_24, li_25, li_32, li_44, li_48, li_57, li_60, li_64, li_81, li_84, li_99, li_100, li_101, li_108, li_111, li_115, li_116, li_120, li_140, li_255, li_500, li_999, li_1000, li_1092, li_1176, li_10000, li_100000, li_1000000, li_N, li_M, nI_add, pk_mul, pk_sub, pk_div, pk_rem, k_mod, nI_clamp, nI_leI, nI_ltI, nI_eq, qin_nI, nI_m1, nN_lt, nN_lt2, nN_le, nN_le2, nN_eq, nN_eq2, qin_nN, Option.some.injEq, Prod.mk.injEq, Sum.inl.injEq, d1, isO_n, e5, d2, d3, m_rl0]
    · rw [qup_o _ _ _ (by omega), qup_o _ _ _ (by omega)]
      exact qup_s ..
    · exact kp_up (kp_up (hk5 _) (by simp)) (by simp)
    · exact k1_uo (k1_uo (hkk5 _) (by omega)) (by omega)
  rw [if_pos q4, qup_qup] at d3
  by_cases q5 : dg L c 3 = dg L c 2
  · rw [if_pos (Or.inr q5), rdB_n rfl]
    refine ⟨qup S5 111 3 (nI 3), ?_, qup_s .., hk5 _, hkk5 _, fun T2 h => by cases h⟩
    simp (disch := omega) only [if_pos, if_neg, ite_true, ite_false, not_true_eq_false, Bool.false_eq_true, not_false_eq_true, eq_self, obs, ob1, ob2, obx, opx, li_0, li_1, li_2, li_3, li_4, li_5, li_6, li_7, li_8, li_9, li_10, li_14, li_16, li_20, li_21, li_24, li_25, li_32, li_44, li_48, li_57, li_60, li_64, li_81, li_84, li_99, li_100, li_101, li_108, li_111, li_115, li_116, li_120, li_140, li_255, li_500, li_999, li_1000, li_1092, li_1176, li_10000, li_100000, li_1000000, li_N, li_M, nI_add, pk_mul, pk_sub, pk_div, pk_rem, k_mod, nI_clamp, nI_leI, nI_ltI, nI_eq, qin_nI, nI_m1, nN_lt, nN_lt2, nN_le, nN_le2, nN_eq, nN_eq2, qin_nN, Option.some.injEq, Prod.mk.injEq, Sum.inl.injEq, d1, isO_n, e5, d2, d3, q5, qup_s, qup_qup]
  rw [if_neg (fun v => v.elim (fun u => u q4) q5), rdB_s rfl]
  have hT6 : isM (qup (qup (qup S5 111 3 (nI 4)) 113 2 (nI (dg L c 2))) 113 3 (nI (dg L c 3))) 113 0 (tB (dg L c 1) (dg L c 2) (dg L c 3)) := by
    refine ⟨?_, ?_, ?_, ?_, fun r hr => absurd hr (Nat.not_lt_zero _)⟩
    · rw [qup_k _ _ _ (by omega), qup_k _ _ _ (by omega), qup_o _ _ _ (by omega)]
      exact c50
    · rw [qup_k _ _ _ (by omega), qup_k _ _ _ (by omega), qup_o _ _ _ (by omega)]
      exact c5 1 (by omega) (by omega)
    · rw [qup_k _ _ _ (by omega)]
      exact qup_s ..
    · exact qup_s ..
  have hv6 := tB_v q2.1 q2.2 q3 q4 (fun v => q5 v.symm)
  have k6 : kp [111, 113] S (qup (qup (qup S5 111 3 (nI 4)) 113 2 (nI (dg L c 2))) 113 3 (nI (dg L c 3))) := kp_up (kp_up (hk5 _) (by simp)) (by simp)
  have kk6 : k1 [3] S (qup (qup (qup S5 111 3 (nI 4)) 113 2 (nI (dg L c 2))) 113 3 (nI (dg L c 3))) := k1_uo (k1_uo (hkk5 _) (by omega)) (by omega)
  have a6 : (qup (qup (qup S5 111 3 (nI 4)) 113 2 (nI (dg L c 2))) 113 3 (nI (dg L c 3))) 111 3 = nI 4 := by
    rw [qup_o _ _ _ (by omega), qup_o _ _ _ (by omega)]
    exact qup_s ..
  have g3 : 3 < L := dg_lt (show dg L c 3 < 10 by omega)
  obtain ⟨S7, e7, a7, k7, kk7, t7⟩ := m_rl (n := n) ok hn 21 n _ (tB (dg L c 1) (dg L c 2) (dg L c 3)) 4 rfl (by omega) (mX_kp (P := [111, 113]) (Q := [3]) hx k6 kk6 (by decide) (by decide)) hT6 hv6 (by omega) a6
  refine ⟨S7, ?_, a7, kp_tr k6 k7 (fun _ h => h) (fun _ h => h), k1_tr kk6 kk7 (fun _ h => h) (fun _ h => h), t7⟩
  have e7' : B8_readTown_127 n n (nI (dg L c 1)) (nI 1) (qup (qup (qup S5 111 3 (nI 4)) 113 2 (nI (dg L c 2))) 113 3 (nI (dg L c 3))) = some (nI (isO (rdL L c 21 (tB (dg L c 1) (dg L c 2) (dg L c 3)) 4).2), S7) := e7
  unfold B8_readTown_125
  simp (disch := omega) only [if_pos, if_neg, ite_true, ite_false, not_true_eq_false, Bool.false_eq_true, not_false_eq_true, eq_self, obs, ob1, ob2, obx, opx, li_0, li_1, li_2, li_3, li_4, li_5, li_6, li_7, li_8, li_9, li_10, li_14, li_16, li_20, li_21, li_24, li_25, li_32, li_44, li_48, li_57, li_60, li_64, li_81, li_84, li_99, li_100, li_101, li_108, li_111, li_115, li_116, li_120, li_140, li_255, li_500, li_999, li_1000, li_1092, li_1176, li_10000, li_100000, li_1000000, li_N, li_M, nI_add, pk_mul, pk_sub, pk_div, pk_rem, k_mod, nI_clamp, nI_leI, nI_ltI, nI_eq, qin_nI, nI_m1, nN_lt, nN_lt2, nN_le, nN_le2, nN_eq, nN_eq2, qin_nN, Option.some.injEq, Prod.mk.injEq, Sum.inl.injEq, d1, e5, d2, d3]
  exact e7'
end QMTOWN
