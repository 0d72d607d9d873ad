/-! CHANGES -/
theorem raise0 {S : qSt} : F7_raise (nI 0) S = some (.inl 0, S) := by
  unfold F7_raise
  simp (disch := omega) only [if_pos, if_neg, ite_true, ite_false, not_true_eq_false, Bool.false_eq_true, not_false_eq_true, eq_self, obs, ob1, ob2, obx, opx, li_0, li_1, li_2, li_3, li_4, li_5, li_6, li_7, li_8, li_9, li_10, li_14, li_16, li_20, li_21, li_24, li_25, li_32, li_44, li_48, li_57, li_60, li_64, li_81, li_84, li_99, li_100, li_101, li_108, li_111, li_115, li_116, li_120, li_140, li_255, li_500, li_999, li_1000, li_1092, li_1176, li_10000, li_100000, li_1000000, li_N, li_M, nI_add, pk_mul, pk_sub, pk_div, pk_rem, k_mod, nI_clamp, nI_leI, nI_ltI, nI_eq, qin_nI, nI_m1, nN_lt, nN_lt2, nN_le, nN_le2, nN_eq, nN_eq2, qin_nN, Option.some.injEq, Prod.mk.injEq, Sum.inl.injEq]
theorem raise1 {S : qSt} : F7_raise (nI 1) S = some (.inr 2, S) := by
  unfold F7_raise
  simp (disch := omega) only [if_pos, if_neg, ite_true, ite_false, not_true_eq_false, Bool.false_eq_true, not_false_eq_true, eq_self, obs, ob1, ob2, obx, opx, li_0, li_1, li_2, li_3, li_4, li_5, li_6, li_7, li_8, li_9, li_10, li_14, li_16, li_20, li_21, li_24, li_25, li_32, li_44, li_48, li_57, li_60, li_64, li_81, li_84, li_99, li_100, li_101, li_108, li_111, li_115, li_116, li_120, li_140, li_255, li_500, li_999, li_1000, li_1092, li_1176, li_10000, li_100000, li_1000000, li_N, li_M, nI_add, pk_mul, pk_sub, pk_div, pk_rem, k_mod, nI_clamp, nI_leI, nI_ltI, nI_eq, qin_nI, nI_m1, nN_lt, nN_lt2, nN_le, nN_le2, nN_eq, nN_eq2, qin_nN, Option.some.injEq, Prod.mk.injEq, Sum.inl.injEq]
theorem raise2 {S : qSt} : F7_raise (nI 2) S = some (.inr 0, S) := by
  unfold F7_raise
  simp (disch := omega) only [if_pos, if_neg, ite_true, ite_false, not_true_eq_false, Bool.false_eq_true, not_false_eq_true, eq_self, obs, ob1, ob2, obx, opx, li_0, li_1, li_2, li_3, li_4, li_5, li_6, li_7, li_8, li_9, li_10, li_14, li_16, li_20, li_21, li_24, li_25, li_32, li_44, li_48, li_57, li_60, li_64, li_81, li_84, li_99, li_100, li_101, li_108, li_111, li_115, li_116, li_120, li_140, li_255, li_500, li_999, li_1000, li_1092, li_1176, li_10000, li_100000, li_1000000, li_N, li_M, nI_add, pk_mul, pk_sub, pk_div, pk_rem, k_mod, nI_clamp, nI_leI, nI_ltI, nI_eq, qin_nI, nI_m1, nN_lt, nN_lt2, nN_le, nN_le2, nN_eq, nN_eq2, qin_nN, Option.some.injEq, Prod.mk.injEq, Sum.inl.injEq]
theorem raise3 {S : qSt} : F7_raise (nI 3) S = some (.inr 1, S) := by
  unfold F7_raise
  simp (disch := omega) only [if_pos, if_neg, ite_true, ite_false, not_true_eq_false, Bool.false_eq_true, not_false_eq_true, eq_self, obs, ob1, ob2, obx, opx, li_0, li_1, li_2, li_3, li_4, li_5, li_6, li_7, li_8, li_9, li_10, li_14, li_16, li_20, li_21, li_24, li_25, li_32, li_44, li_48, li_57, li_60, li_64, li_81, li_84, li_99, li_100, li_101, li_108, li_111, li_115, li_116, li_120, li_140, li_255, li_500, li_999, li_1000, li_1092, li_1176, li_10000, li_100000, li_1000000, li_N, li_M, nI_add, pk_mul, pk_sub, pk_div, pk_rem, k_mod, nI_clamp, nI_leI, nI_ltI, nI_eq, qin_nI, nI_m1, nN_lt, nN_lt2, nN_le, nN_le2, nN_eq, nN_eq2, qin_nN, Option.some.injEq, Prod.mk.injEq, Sum.inl.injEq]
section QCH
variable {S : qSt} {L : Nat} {c : Nat → Nat} {T : Tn} {hc : Nat} {H : Nat → Tn} {F : Nat → Nat} {K : Nat → Tn} {n : Nat} {T2 : Tn}
/-- a change on the trial is accepted -/
theorem c_chg {S2 : qSt} (hR : RC S L c T hc H F K) (ok : OKA L c T hc H F K) (k : kp (pT 13) S S2) (t : isT S2 13 T2) (hv2 : vT T2) (hn : 100 ≤ n) : ∃ S3, F7_acceptTrial n S2 = some S3 ∧ RC S3 L c T2 (hcP hc) (hPush hc H T) F K ∧ kC S S3 := by
  obtain ⟨S3, e3, r3, k3⟩ := c_acc (n := n) (RC_kp hR k (by simp)) ok.2.2.1 ok.2.2.2.1 t hv2 hn
  exact ⟨S3, e3, r3, kC_tr (kC_kp k (by simp)) k3⟩
theorem c_cp13 (hR : RC S L c T hc H F K) (ok : OKA L c T hc H F K) (hn : 100 ≤ n) : ∃ S1, F5_copyFrom n 13 8 S = some S1 ∧ isT S1 13 T ∧ kp (pT 13) S S1 ∧ RC S1 L c T hc H F K ∧ kC S S1 := by
  obtain ⟨S1, e1, t1, k1⟩ := c_cp (o := 13) (n := n) hR.2.1 ok.2.2.1 (by omega) (by omega) hn
  exact ⟨S1, e1, t1, k1, RC_kp hR k1 (by simp), kC_kp k1 (by simp)⟩
/-- the model remembers, then changes its town -/
theorem m_chg (hR : RM S L c T hc H F K) (ok : OKA L c T hc H F K) (hn : 2000 ≤ n) : ∃ S2, F8_remember n (qup S 111 0 (nI 0)) = some S2 ∧ isM S2 114 0 T ∧ S2 111 0 = nI 0 ∧ kM S S2 ∧ ∀ S3 T2, kp [114] S2 S3 → isM S3 114 0 T2 → RM S3 L c T2 (hcP hc) (hPush hc H T) F K ∧ kM S S3 ∧ S3 111 0 = nI 0 := by
  obtain ⟨r1, r2, r3, r4⟩ := rq hR 0
  obtain ⟨S2, e2, g1, g2, g3⟩ := m_rem (n := n) r1 ok hn
  refine ⟨S2, e2, g1.2.1, g3.trans r3, kM_tr r2 g2, fun S3 T2 k t => ⟨RM_town g1 k t, kM_tr (kM_tr r2 g2) (kM_kp k (by simp)), ?_⟩⟩
  rw [k 111 (by decide)]
  exact g3.trans r3
/-- both tell the best length behind a change -/
theorem c_tell (hR : RC S L c T hc H F K) (hv : vT T) {e : Gr} {D : Nat → Nat} (hG : isG e T 9999) (hD : gD 100 e (T 0 3) D) (hn : 100 ≤ n) : ∃ S2, F7_bestLengthIn n 8 S = some (lenI (D (T 0 2)), S2) ∧ RC S2 L c T hc H F K ∧ kC S S2 := by
  have := hv.2.2.1
  obtain ⟨S2, e2, k2⟩ := c_bl (n := n) hR.2.1 (Or.inl (by omega)) hv (by omega) hG (by omega) hD hn
  exact ⟨S2, e2, RC_kp hR k2 (by simp), kC_kp k2 (by simp)⟩
theorem m_tell (hR : RM S L c T hc H F K) (hv : vT T) {e : Gr} {D : Nat → Nat} (hG : isG e T 9999) (hD : gD 100 e (T 0 3) D) (hn : 100000000 ≤ n) : ∃ S2, F8_bestBut n 114 nN S = some (lenI (D (T 0 2)), S2) ∧ RM S2 L c T hc H F K ∧ kM S S2 ∧ S2 111 0 = S 111 0 := by
  obtain ⟨S2, e2, k2, -, -⟩ := m_bb (n := n) kr_114 (by omega) hR.2.1 hv hG hD hn
  rw [bI_N] at e2
  exact ⟨S2, e2, m_keep2 hR k2⟩
theorem k_addCrossing (h : Rel S) (hn : 100000000 ≤ n) : okc (CC (FL_addCrossing n S) (F8_addCrossing n)) := by
  obtain ⟨L, c, T, hc, H, F, K, hR, rm, ok⟩ := h
  have hv := ok.2.2.1
  have h9 := hv.2.1
  have h20 := hv.2.2.1
  obtain ⟨S1, e1, t1, k1, q1, w1⟩ := c_cp13 (n := n) hR ok (by omega)
  unfold FL_addCrossing
  by_cases q : T 0 0 = 9
  · refine okc_x (k := 1) (w := 1) rm ⟨S1, ?_, q1, w1⟩ (fun S => by simp (disch := omega) only [if_pos, if_neg, ite_true, ite_false, not_true_eq_false, Bool.false_eq_true, not_false_eq_true, eq_self, obs, ob1, ob2, obx, opx, li_0, li_1, li_2, li_3, li_4, li_5, li_6, li_7, li_8, li_9, li_10, li_14, li_16, li_20, li_21, li_24, li_25, li_32, li_44, li_48, li_57, li_60, li_64, li_81, li_84, li_99, li_100, li_101, li_108, li_111, li_115, li_116, li_120, li_140, li_255, li_500, li_999, li_1000, li_1092, li_1176, li_10000, li_100000, li_1000000, li_N, li_M, nI_add, pk_mul, pk_sub, pk_div, pk_rem, k_mod, nI_clamp, nI_leI, nI_ltI, nI_eq, qin_nI, nI_m1, nN_lt, nN_lt2, nN_le, nN_le2, nN_eq, nN_eq2, qin_nN, Option.some.injEq, Prod.mk.injEq, Sum.inl.injEq]) (by omega) (by omega) (fun S rm => ⟨nI 0, qup S 111 0 (nI 1), ?_, (rq rm 1).1, (rq rm 1).2.1, (rq rm 1).2.2.1⟩) ok
    · unfold F7_addCrossing
      simp (disch := omega) only [if_pos, if_neg, ite_true, ite_false, not_true_eq_false, Bool.false_eq_true, not_false_eq_true, eq_self, obs, ob1, ob2, obx, opx, li_0, li_1, li_2, li_3, li_4, li_5, li_6, li_7, li_8, li_9, li_10, li_14, li_16, li_20, li_21, li_24, li_25, li_32, li_44, li_48, li_57, li_60, li_64, li_81, li_84, li_99, li_100, li_101, li_108, li_111, li_115, li_116, li_120, li_140, li_255, li_500, li_999, li_1000, li_1092, li_1176, li_10000, li_100000, li_1000000, li_N, li_M, nI_add, pk_mul, pk_sub, pk_div, pk_rem, k_mod, nI_clamp, nI_leI, nI_ltI, nI_eq, qin_nI, nI_m1, nN_lt, nN_lt2, nN_le, nN_le2, nN_eq, nN_eq2, qin_nN, Option.some.injEq, Prod.mk.injEq, Sum.inl.injEq, e1, c_grow_n t1 q, raise3]
    · have z : S 114 0 = nI (T 0 0) := rm.2.1.1
      unfold F8_addCrossing
      simp (disch := omega) only [if_pos, if_neg, ite_true, ite_false, not_true_eq_false, Bool.false_eq_true, not_false_eq_true, eq_self, obs, ob1, ob2, obx, opx, li_0, li_1, li_2, li_3, li_4, li_5, li_6, li_7, li_8, li_9, li_10, li_14, li_16, li_20, li_21, li_24, li_25, li_32, li_44, li_48, li_57, li_60, li_64, li_81, li_84, li_99, li_100, li_101, li_108, li_111, li_115, li_116, li_120, li_140, li_255, li_500, li_999, li_1000, li_1092, li_1176, li_10000, li_100000, li_1000000, li_N, li_M, nI_add, pk_mul, pk_sub, pk_div, pk_rem, k_mod, nI_clamp, nI_leI, nI_ltI, nI_eq, qin_nI, nI_m1, nN_lt, nN_lt2, nN_le, nN_le2, nN_eq, nN_eq2, qin_nN, Option.some.injEq, Prod.mk.injEq, Sum.inl.injEq, z]
      exact m_throw 1 (by omega) (by omega)
  · have hv2 := vK_grow hv (by omega)
    obtain ⟨S2, e2, t2, k2⟩ := c_grow_y t1 (by omega)
    obtain ⟨S3, e3, r3, w3⟩ := c_chg (n := n) hR ok (kp_tr k1 k2 (fun _ h => h) (fun _ h => h)) t2 hv2 (by omega)
    refine okc_r (r := nI (T 0 0)) (L2 := L) (c2 := c) (T2 := tU T 0 0 (T 0 0 + 1)) (hc2 := hcP hc) (H2 := hPush hc H T) (F2 := F) (K2 := K) rm ⟨S3, ?_, r3, w3⟩ (fun S rm => ?_) (OKA_push ok hv2)
    · have z : S3 8 0 = nI (T 0 0 + 1) := by
        rw [r3.2.1.1]
        simp (disch := omega) only [qup_e, if_pos, if_neg, ite_true, ite_false, eq_self, and_self, true_and, and_true, tU]
      unfold F7_addCrossing
      simp (disch := omega) only [if_pos, if_neg, ite_true, ite_false, not_true_eq_false, Bool.false_eq_true, not_false_eq_true, eq_self, obs, ob1, ob2, obx, opx, li_0, li_1, li_2, li_3, li_4, li_5, li_6, li_7, li_8, li_9, li_10, li_14, li_16, li_20, li_21, li_24, li_25, li_32, li_44, li_48, li_57, li_60, li_64, li_81, li_84, li_99, li_100, li_101, li_108, li_111, li_115, li_116, li_120, li_140, li_255, li_500, li_999, li_1000, li_1092, li_1176, li_10000, li_100000, li_1000000, li_N, li_M, nI_add, pk_mul, pk_sub, pk_div, pk_rem, k_mod, nI_clamp, nI_leI, nI_ltI, nI_eq, qin_nI, nI_m1, nN_lt, nN_lt2, nN_le, nN_le2, nN_eq, nN_eq2, qin_nN, Option.some.injEq, Prod.mk.injEq, Sum.inl.injEq, e1, e2, raise0, e3, z, Nat.add_sub_cancel]
    · obtain ⟨S5, f1, f2, f3, f4, f5⟩ := m_chg (n := n) rm ok (by omega)
      obtain ⟨g1, g2, g3⟩ := f5 (qup S5 114 0 (nI (T 0 0 + 1))) _ (kp_up kp_rfl (by simp)) (isM_hd f2 (by omega) (by omega) _)
      refine ⟨_, ?_, g1, g2, g3⟩
      have z : S 114 0 = nI (T 0 0) := rm.2.1.1
      have z5 : S5 114 0 = nI (T 0 0) := f2.1
      unfold F8_addCrossing B8_addCrossing_17
      simp (disch := omega) only [if_pos, if_neg, ite_true, ite_false, not_true_eq_false, Bool.false_eq_true, not_false_eq_true, eq_self, obs, ob1, ob2, obx, opx, li_0, li_1, li_2, li_3, li_4, li_5, li_6, li_7, li_8, li_9, li_10, li_14, li_16, li_20, li_21, li_24, li_25, li_32, li_44, li_48, li_57, li_60, li_64, li_81, li_84, li_99, li_100, li_101, li_108, li_111, li_115, li_116, li_120, li_140, li_255, li_500, li_999, li_1000, li_1092, li_1176, li_10000, li_100000, li_1000000, li_N, li_M, nI_add, pk_mul, pk_sub, pk_div, pk_rem, k_mod, nI_clamp, nI_leI, nI_ltI, nI_eq, qin_nI, nI_m1, nN_lt, nN_lt2, nN_le, nN_le2, nN_eq, nN_eq2, qin_nN, Option.some.injEq, Prod.mk.injEq, Sum.inl.injEq, z, m_ref_0, f1, z5, qup_s, Nat.add_sub_cancel]
theorem k_addStreet (h : Rel S) (hn : 100000000 ≤ n) (x y z : Int32) : okc (CC (FL_addStreet n x y z S) (F8_addStreet n x y z)) := by
  obtain ⟨L, c, T, hc, H, F, K, hR, rm, ok⟩ := h
  have hv := ok.2.2.1
  have h9 := hv.2.1
  have h20 := hv.2.2.1
  obtain ⟨S1, e1, t1, k1, q1, w1⟩ := c_cp13 (n := n) hR ok (by omega)
  unfold FL_addStreet
  have thr : ∀ (w k : Nat) (i : Nat), F5_join n 13 x y z S1 = some (nI i, S1) → (∀ S, F7_raise (nI i) S = some (.inr k, S)) → (w = 1 ∧ k = 2 ∨ w = 2 ∧ k = 0 ∨ w = 3 ∧ k = 1) → (∀ S, RM S L c T hc H F K → F8_whyNotBuild n 114 x y z S = some (nI w)) → okc (CC (obx (F7_addStreet n x y z S) (fun r1 S1 => some (0, qup S1 126 (0 : Int32).toNatClampNeg r1)) (fun k S1 => if k = 2 then some (1, S1) else if k = 0 then some (2, S1) else if k = 1 then some (3, S1) else none)) (F8_addStreet n x y z)) := fun w k i g1 g2 g3 g4 => by
    refine okc_x (k := k) (w := w) rm ⟨S1, ?_, q1, w1⟩ (fun S => by rcases g3 with ⟨rfl, rfl⟩ | ⟨rfl, rfl⟩ | ⟨rfl, rfl⟩ <;> simp (disch := omega) only [if_pos, if_neg, ite_true, ite_false, not_true_eq_false, Bool.false_eq_true, not_false_eq_true, eq_self, obs, ob1, ob2, obx, opx, li_0, li_1, li_2, li_3, li_4, li_5, li_6, li_7, li_8, li_9, li_10, li_14, li_16, li_20, li_21, li_24, li_25, li_32, li_44, li_48, li_57, li_60, li_64, li_81, li_84, li_99, li_100, li_101, li_108, li_111, li_115, li_116, li_120, li_140, li_255, li_500, li_999, li_1000, li_1092, li_1176, li_10000, li_100000, li_1000000, li_N, li_M, nI_add, pk_mul, pk_sub, pk_div, pk_rem, k_mod, nI_clamp, nI_leI, nI_ltI, nI_eq, qin_nI, nI_m1, nN_lt, nN_lt2, nN_le, nN_le2, nN_eq, nN_eq2, qin_nN, Option.some.injEq, Prod.mk.injEq, Sum.inl.injEq]) (by omega) (by omega) (fun S rm => ⟨nI 0, qup S 111 0 (nI w), ?_, (rq rm w).1, (rq rm w).2.1, (rq rm w).2.2.1⟩) ok
    · unfold F7_addStreet
      simp (disch := omega) only [if_pos, if_neg, ite_true, ite_false, not_true_eq_false, Bool.false_eq_true, not_false_eq_true, eq_self, obs, ob1, ob2, obx, opx, li_0, li_1, li_2, li_3, li_4, li_5, li_6, li_7, li_8, li_9, li_10, li_14, li_16, li_20, li_21, li_24, li_25, li_32, li_44, li_48, li_57, li_60, li_64, li_81, li_84, li_99, li_100, li_101, li_108, li_111, li_115, li_116, li_120, li_140, li_255, li_500, li_999, li_1000, li_1092, li_1176, li_10000, li_100000, li_1000000, li_N, li_M, nI_add, pk_mul, pk_sub, pk_div, pk_rem, k_mod, nI_clamp, nI_leI, nI_ltI, nI_eq, qin_nI, nI_m1, nN_lt, nN_lt2, nN_le, nN_le2, nN_eq, nN_eq2, qin_nN, Option.some.injEq, Prod.mk.injEq, Sum.inl.injEq, e1, g1, g2]
    · unfold F8_addStreet
      rw [g4 S rm]
      exact m_throw w (by omega) (by omega)
  rcases ix x (T 0 0) (by omega) with ⟨a, ha, rfl⟩ | ⟨hno, hb⟩
  · rcases ix y (T 0 0) (by omega) with ⟨b, hb, rfl⟩ | ⟨hno, hb⟩
    · by_cases hab : a = b
      · subst hab
        exact thr 2 0 2 (c_join_2 t1 hv ha) (fun _ => raise2) (by omega) (fun S rm => m_wnb_2 kr_114 rm.2.1 hv ha)
      · by_cases hl : ∀ l, 1 ≤ l → l ≤ 99 → z ≠ nI l
        · exact thr 2 0 2 (c_join_l t1 hv ha hb hab hl) (fun _ => raise2) (by omega) (fun S rm => m_wnb_l kr_114 rm.2.1 hv ha hb hab hl)
        · have hl2 : ∃ l, 1 ≤ l ∧ l ≤ 99 ∧ z = nI l := Classical.byContradiction fun q => hl (fun l h1 h2 h3 => q ⟨l, h1, h2, h3⟩)
          obtain ⟨l, l1, l2, rfl⟩ := hl2
          by_cases full : 20 ≤ T 0 1 ∨ tj T a b ≠ nN
          · refine thr 3 1 3 (c_join_3 t1 hv (by omega) ha hb hab l1 l2 full (by omega)) (fun _ => raise3) (by omega) (fun S rm => ?_)
            rw [m_wnb_3 kr_114 rm.2.1 hv ha hb hab l1 l2 (by omega), if_pos full]
          · have hj : tj T a b = nN := Classical.byContradiction fun q => full (Or.inr q)
            have hv2 := vK_add hv (by omega) (show T 0 1 < 20 by omega) ha hb hab l1 l2 hj
            obtain ⟨S2, e2, t2, k2⟩ := c_join_0 (n := n) t1 hv (by omega) ha hb hab l1 l2 (by omega) hj (by omega)
            obtain ⟨S3, e3, r3, w3⟩ := c_chg (n := n) hR ok (kp_tr k1 k2 (fun _ h => h) (fun _ h => h)) t2 hv2 (by omega)
            refine okc_r (r := nI (T 0 1)) (L2 := L) (c2 := c) (T2 := tA T a b l) (hc2 := hcP hc) (H2 := hPush hc H T) (F2 := F) (K2 := K) rm ⟨S3, ?_, r3, w3⟩ (fun S rm => ?_) (OKA_push ok hv2)
            · have z : S3 8 1 = nI (T 0 1 + 1) := by
                rw [r3.2.1.2.1]
                unfold tA tP
                simp (disch := omega) only [qup_e, if_pos, if_neg, ite_true, ite_false, eq_self, and_self, true_and, and_true, tU]
              unfold F7_addStreet
              simp (disch := omega) only [if_pos, if_neg, ite_true, ite_false, not_true_eq_false, Bool.false_eq_true, not_false_eq_true, eq_self, obs, ob1, ob2, obx, opx, li_0, li_1, li_2, li_3, li_4, li_5, li_6, li_7, li_8, li_9, li_10, li_14, li_16, li_20, li_21, li_24, li_25, li_32, li_44, li_48, li_57, li_60, li_64, li_81, li_84, li_99, li_100, li_101, li_108, li_111, li_115, li_116, li_120, li_140, li_255, li_500, li_999, li_1000, li_1092, li_1176, li_10000, li_100000, li_1000000, li_N, li_M, nI_add, pk_mul, pk_sub, pk_div, pk_rem, k_mod, nI_clamp, nI_leI, nI_ltI, nI_eq, qin_nI, nI_m1, nN_lt, nN_lt2, nN_le, nN_le2, nN_eq, nN_eq2, qin_nN, Option.some.injEq, Prod.mk.injEq, Sum.inl.injEq, e1, e2, raise0, e3, z, Nat.add_sub_cancel]
            · obtain ⟨S5, f1, f2, f3, f4, f5⟩ := m_chg (n := n) rm ok (by omega)
              obtain ⟨S6, g1, g2, g3⟩ := m_build (a := a) (b := b) (l := l) kr_114 f2 (by omega)
              obtain ⟨i1, i2, i3⟩ := f5 S6 _ g3 g2
              refine ⟨S6, ?_, i1, i2, i3⟩
              unfold F8_addStreet
              rw [m_wnb_3 kr_114 rm.2.1 hv ha hb hab l1 l2 (by omega), if_neg full]
              simp (disch := omega) only [if_pos, if_neg, ite_true, ite_false, not_true_eq_false, Bool.false_eq_true, not_false_eq_true, eq_self, obs, ob1, ob2, obx, opx, li_0, li_1, li_2, li_3, li_4, li_5, li_6, li_7, li_8, li_9, li_10, li_14, li_16, li_20, li_21, li_24, li_25, li_32, li_44, li_48, li_57, li_60, li_64, li_81, li_84, li_99, li_100, li_101, li_108, li_111, li_115, li_116, li_120, li_140, li_255, li_500, li_999, li_1000, li_1092, li_1176, li_10000, li_100000, li_1000000, li_N, li_M, nI_add, pk_mul, pk_sub, pk_div, pk_rem, k_mod, nI_clamp, nI_leI, nI_ltI, nI_eq, qin_nI, nI_m1, nN_lt, nN_lt2, nN_le, nN_le2, nN_eq, nN_eq2, qin_nN, Option.some.injEq, Prod.mk.injEq, Sum.inl.injEq, m_ref_0, f1, g1]
    · exact thr 1 2 1 (c_join_1 t1 hv (Or.inr hno)) (fun _ => raise1) (by omega) (fun S rm => m_wnb_1 kr_114 rm.2.1 hv (Or.inr hno))
  · exact thr 1 2 1 (c_join_1 t1 hv (Or.inl hno)) (fun _ => raise1) (by omega) (fun S rm => m_wnb_1 kr_114 rm.2.1 hv (Or.inl hno))
theorem k_removeStreet (h : Rel S) (hn : 100000000 ≤ n) (x : Int32) : okc (CC (FL_removeStreet n x S) (F8_removeStreet n x)) := by
  obtain ⟨L, c, T, hc, H, F, K, hR, rm, ok⟩ := h
  have hv := ok.2.2.1
  have h20 := hv.2.2.1
  obtain ⟨S1, e1, t1, k1, q1, w1⟩ := c_cp13 (n := n) hR ok (by omega)
  unfold FL_removeStreet
  rcases ix x (T 0 1) (by omega) with ⟨s, hs, rfl⟩ | ⟨hno, hb⟩
  · have hv2 := vK_rem hv hs
    obtain ⟨e, D, p, kk, hG, hD, -⟩ := all_ex hv2 9999
    obtain ⟨S2, e2, t2, k2⟩ := c_ta_y (n := n) t1 hv (by omega) hs (by omega)
    obtain ⟨S3, e3, r3, w3⟩ := c_chg (n := n) hR ok (kp_tr k1 k2 (fun _ h => h) (fun _ h => h)) t2 hv2 (by omega)
    obtain ⟨S4, e4, r4, w4⟩ := c_tell (n := n) r3 hv2 hG hD (by omega)
    refine okc_r (r := lenI (D (tR T s 0 2))) (L2 := L) (c2 := c) (T2 := tR T s) (hc2 := hcP hc) (H2 := hPush hc H T) (F2 := F) (K2 := K) rm ⟨S4, ?_, r4, kC_tr w3 w4⟩ (fun S rm => ?_) (OKA_push ok hv2)
    · unfold F7_removeStreet
      simp (disch := omega) only [if_pos, if_neg, ite_true, ite_false, not_true_eq_false, Bool.false_eq_true, not_false_eq_true, eq_self, obs, ob1, ob2, obx, opx, li_0, li_1, li_2, li_3, li_4, li_5, li_6, li_7, li_8, li_9, li_10, li_14, li_16, li_20, li_21, li_24, li_25, li_32, li_44, li_48, li_57, li_60, li_64, li_81, li_84, li_99, li_100, li_101, li_108, li_111, li_115, li_116, li_120, li_140, li_255, li_500, li_999, li_1000, li_1092, li_1176, li_10000, li_100000, li_1000000, li_N, li_M, nI_add, pk_mul, pk_sub, pk_div, pk_rem, k_mod, nI_clamp, nI_leI, nI_ltI, nI_eq, qin_nI, nI_m1, nN_lt, nN_lt2, nN_le, nN_le2, nN_eq, nN_eq2, qin_nN, Option.some.injEq, Prod.mk.injEq, Sum.inl.injEq, e1, e2, raise0, e3, e4]
    · obtain ⟨S5, f1, f2, f3, f4, f5⟩ := m_chg (n := n) rm ok (by omega)
      obtain ⟨S6, g1, g2, g3⟩ := m_td (n := n) kr_114 f2 hv hs (by omega)
      obtain ⟨i1, i2, i3⟩ := f5 S6 _ g3 g2
      obtain ⟨S7, j1, j2, j3, j4⟩ := m_tell (n := n) i1 hv2 hG hD hn
      refine ⟨S7, ?_, j2, kM_tr i2 j3, j4.trans i3⟩
      unfold F8_removeStreet B8_removeStreet_17
      rw [m_isS_y kr_114 rm.2.1.2.1 (by omega) hs]
      simp (disch := omega) only [if_pos, if_neg, ite_true, ite_false, not_true_eq_false, Bool.false_eq_true, not_false_eq_true, eq_self, obs, ob1, ob2, obx, opx, li_0, li_1, li_2, li_3, li_4, li_5, li_6, li_7, li_8, li_9, li_10, li_14, li_16, li_20, li_21, li_24, li_25, li_32, li_44, li_48, li_57, li_60, li_64, li_81, li_84, li_99, li_100, li_101, li_108, li_111, li_115, li_116, li_120, li_140, li_255, li_500, li_999, li_1000, li_1092, li_1176, li_10000, li_100000, li_1000000, li_N, li_M, nI_add, pk_mul, pk_sub, pk_div, pk_rem, k_mod, nI_clamp, nI_leI, nI_ltI, nI_eq, qin_nI, nI_m1, nN_lt, nN_lt2, nN_le, nN_le2, nN_eq, nN_eq2, qin_nN, Option.some.injEq, Prod.mk.injEq, Sum.inl.injEq, m_ref_0, f1, g1, j1]
  · refine okc_x (k := 2) (w := 1) rm ⟨S1, ?_, q1, w1⟩ (fun S => by simp (disch := omega) only [if_pos, if_neg, ite_true, ite_false, not_true_eq_false, Bool.false_eq_true, not_false_eq_true, eq_self, obs, ob1, ob2, obx, opx, li_0, li_1, li_2, li_3, li_4, li_5, li_6, li_7, li_8, li_9, li_10, li_14, li_16, li_20, li_21, li_24, li_25, li_32, li_44, li_48, li_57, li_60, li_64, li_81, li_84, li_99, li_100, li_101, li_108, li_111, li_115, li_116, li_120, li_140, li_255, li_500, li_999, li_1000, li_1092, li_1176, li_10000, li_100000, li_1000000, li_N, li_M, nI_add, pk_mul, pk_sub, pk_div, pk_rem, k_mod, nI_clamp, nI_leI, nI_ltI, nI_eq, qin_nI, nI_m1, nN_lt, nN_lt2, nN_le, nN_le2, nN_eq, nN_eq2, qin_nN, Option.some.injEq, Prod.mk.injEq, Sum.inl.injEq]) (by omega) (by omega) (fun S rm => ⟨nI 0, qup S 111 0 (nI 1), ?_, (rq rm 1).1, (rq rm 1).2.1, (rq rm 1).2.2.1⟩) ok
    · unfold F7_removeStreet
      simp (disch := omega) only [if_pos, if_neg, ite_true, ite_false, not_true_eq_false, Bool.false_eq_true, not_false_eq_true, eq_self, obs, ob1, ob2, obx, opx, li_0, li_1, li_2, li_3, li_4, li_5, li_6, li_7, li_8, li_9, li_10, li_14, li_16, li_20, li_21, li_24, li_25, li_32, li_44, li_48, li_57, li_60, li_64, li_81, li_84, li_99, li_100, li_101, li_108, li_111, li_115, li_116, li_120, li_140, li_255, li_500, li_999, li_1000, li_1092, li_1176, li_10000, li_100000, li_1000000, li_N, li_M, nI_add, pk_mul, pk_sub, pk_div, pk_rem, k_mod, nI_clamp, nI_leI, nI_ltI, nI_eq, qin_nI, nI_m1, nN_lt, nN_lt2, nN_le, nN_le2, nN_eq, nN_eq2, qin_nN, Option.some.injEq, Prod.mk.injEq, Sum.inl.injEq, e1, c_ta_n (n := n) t1 hv (by omega : 20 ≤ 21) hno, raise1]
    · unfold F8_removeStreet
      rw [m_isS_n kr_114 rm.2.1.2.1 (by omega) hno]
      simp (disch := omega) only [if_pos, if_neg, ite_true, ite_false, not_true_eq_false, Bool.false_eq_true, not_false_eq_true, eq_self, obs, ob1, ob2, obx, opx, li_0, li_1, li_2, li_3, li_4, li_5, li_6, li_7, li_8, li_9, li_10, li_14, li_16, li_20, li_21, li_24, li_25, li_32, li_44, li_48, li_57, li_60, li_64, li_81, li_84, li_99, li_100, li_101, li_108, li_111, li_115, li_116, li_120, li_140, li_255, li_500, li_999, li_1000, li_1092, li_1176, li_10000, li_100000, li_1000000, li_N, li_M, nI_add, pk_mul, pk_sub, pk_div, pk_rem, k_mod, nI_clamp, nI_leI, nI_ltI, nI_eq, qin_nI, nI_m1, nN_lt, nN_lt2, nN_le, nN_le2, nN_eq, nN_eq2, qin_nN, Option.some.injEq, Prod.mk.injEq, Sum.inl.injEq]
      exact m_throw 1 (by omega) (by omega)
theorem k_setLength (h : Rel S) (hn : 100000000 ≤ n) (x y : Int32) : okc (CC (FL_setLength n x y S) (F8_setLength n x y)) := by
  obtain ⟨L, c, T, hc, H, F, K, hR, rm, ok⟩ := h
  have hv := ok.2.2.1
  have h20 := hv.2.2.1
  obtain ⟨S1, e1, t1, k1, q1, w1⟩ := c_cp13 (n := n) hR ok (by omega)
  unfold FL_setLength
  rcases ix x (T 0 1) (by omega) with ⟨s, hs, rfl⟩ | ⟨hno, hb⟩
  · by_cases hl : ∀ l, 1 ≤ l → l ≤ 99 → y ≠ nI l
    · refine okc_x (k := 0) (w := 2) rm ⟨S1, ?_, q1, w1⟩ (fun S => by simp (disch := omega) only [if_pos, if_neg, ite_true, ite_false, not_true_eq_false, Bool.false_eq_true, not_false_eq_true, eq_self, obs, ob1, ob2, obx, opx, li_0, li_1, li_2, li_3, li_4, li_5, li_6, li_7, li_8, li_9, li_10, li_14, li_16, li_20, li_21, li_24, li_25, li_32, li_44, li_48, li_57, li_60, li_64, li_81, li_84, li_99, li_100, li_101, li_108, li_111, li_115, li_116, li_120, li_140, li_255, li_500, li_999, li_1000, li_1092, li_1176, li_10000, li_100000, li_1000000, li_N, li_M, nI_add, pk_mul, pk_sub, pk_div, pk_rem, k_mod, nI_clamp, nI_leI, nI_ltI, nI_eq, qin_nI, nI_m1, nN_lt, nN_lt2, nN_le, nN_le2, nN_eq, nN_eq2, qin_nN, Option.some.injEq, Prod.mk.injEq, Sum.inl.injEq]) (by omega) (by omega) (fun S rm => ⟨nI 0, qup S 111 0 (nI 2), ?_, (rq rm 2).1, (rq rm 2).2.1, (rq rm 2).2.2.1⟩) ok
      · unfold F7_setLength
        simp (disch := omega) only [if_pos, if_neg, ite_true, ite_false, not_true_eq_false, Bool.false_eq_true, not_false_eq_true, eq_self, obs, ob1, ob2, obx, opx, li_0, li_1, li_2, li_3, li_4, li_5, li_6, li_7, li_8, li_9, li_10, li_14, li_16, li_20, li_21, li_24, li_25, li_32, li_44, li_48, li_57, li_60, li_64, li_81, li_84, li_99, li_100, li_101, li_108, li_111, li_115, li_116, li_120, li_140, li_255, li_500, li_999, li_1000, li_1092, li_1176, li_10000, li_100000, li_1000000, li_N, li_M, nI_add, pk_mul, pk_sub, pk_div, pk_rem, k_mod, nI_clamp, nI_leI, nI_ltI, nI_eq, qin_nI, nI_m1, nN_lt, nN_lt2, nN_le, nN_le2, nN_eq, nN_eq2, qin_nN, Option.some.injEq, Prod.mk.injEq, Sum.inl.injEq, e1, c_str_l t1 hv (by omega : 20 ≤ 21) hs hl, raise2]
      · have hin : F8_in y.toInt64 1 99 S = nI 0 := by
          rw [l64_1, l64_99]
          exact in_n S hl (by omega) (by omega)
        unfold F8_setLength
        rw [m_isS_y kr_114 rm.2.1.2.1 (by omega) hs]
        simp (disch := omega) only [if_pos, if_neg, ite_true, ite_false, not_true_eq_false, Bool.false_eq_true, not_false_eq_true, eq_self, obs, ob1, ob2, obx, opx, li_0, li_1, li_2, li_3, li_4, li_5, li_6, li_7, li_8, li_9, li_10, li_14, li_16, li_20, li_21, li_24, li_25, li_32, li_44, li_48, li_57, li_60, li_64, li_81, li_84, li_99, li_100, li_101, li_108, li_111, li_115, li_116, li_120, li_140, li_255, li_500, li_999, li_1000, li_1092, li_1176, li_10000, li_100000, li_1000000, li_N, li_M, nI_add, pk_mul, pk_sub, pk_div, pk_rem, k_mod, nI_clamp, nI_leI, nI_ltI, nI_eq, qin_nI, nI_m1, nN_lt, nN_lt2, nN_le, nN_le2, nN_eq, nN_eq2, qin_nN, Option.some.injEq, Prod.mk.injEq, Sum.inl.injEq, hin]
        exact m_throw 2 (by omega) (by omega)
    · have hl2 : ∃ l, 1 ≤ l ∧ l ≤ 99 ∧ y = nI l := Classical.byContradiction fun q => hl (fun l h1 h2 h3 => q ⟨l, h1, h2, h3⟩)
      obtain ⟨l, l1, l2, rfl⟩ := hl2
      have hv2 := vK_str (s := s) hv l1 l2
      obtain ⟨S2, e2, t2, k2⟩ := c_str_y t1 hv (by omega) hs l1 l2
      have kk2 : kp (pT 13) S S2 := kp_tr k1 k2 (fun _ h => h) (fun _ h => h)
      obtain ⟨S3, e3, r3, w3⟩ := c_chg (n := n) hR ok kk2 t2 hv2 (by omega)
      have tt2 : isT S2 8 T := isT_kp hR.2.1 kk2 (by simp) (by simp) (by simp) (by simp) (by simp)
      refine okc_r (r := nI (T 3 s)) (L2 := L) (c2 := c) (T2 := tU T 3 s l) (hc2 := hcP hc) (H2 := hPush hc H T) (F2 := F) (K2 := K) rm ⟨S3, ?_, r3, w3⟩ (fun S rm => ?_) (OKA_push ok hv2)
      · unfold F7_setLength
        simp (disch := omega) only [if_pos, if_neg, ite_true, ite_false, not_true_eq_false, Bool.false_eq_true, not_false_eq_true, eq_self, obs, ob1, ob2, obx, opx, li_0, li_1, li_2, li_3, li_4, li_5, li_6, li_7, li_8, li_9, li_10, li_14, li_16, li_20, li_21, li_24, li_25, li_32, li_44, li_48, li_57, li_60, li_64, li_81, li_84, li_99, li_100, li_101, li_108, li_111, li_115, li_116, li_120, li_140, li_255, li_500, li_999, li_1000, li_1092, li_1176, li_10000, li_100000, li_1000000, li_N, li_M, nI_add, pk_mul, pk_sub, pk_div, pk_rem, k_mod, nI_clamp, nI_leI, nI_ltI, nI_eq, qin_nI, nI_m1, nN_lt, nN_lt2, nN_le, nN_le2, nN_eq, nN_eq2, qin_nN, Option.some.injEq, Prod.mk.injEq, Sum.inl.injEq, e1, e2, raise0, c_lo tt2 hv (by omega : 20 ≤ 21) hs, e3]
      · obtain ⟨S5, f1, f2, f3, f4, f5⟩ := m_chg (n := n) rm ok (by omega)
        have g2 := isM_st (x := 3) f2 (Or.inl rfl) (by omega) hs l
        rw [if_pos rfl] at g2
        obtain ⟨i1, i2, i3⟩ := f5 _ _ (kp_up kp_rfl (by simp)) g2
        have z : S5 114 (44 + s) = nI (T 3 s) := by
          have := (f2.2.2.2.2 s hs).2.1
          rw [Nat.zero_add] at this
          exact this
        have hin : F8_in (nI l).toInt64 1 99 S = nI 1 := by
          rw [l64_1, l64_99]
          exact in_y S l1 l2 (by omega)
        refine ⟨_, ?_, i1, i2, i3⟩
        unfold F8_setLength B8_setLength_33
        rw [m_isS_y kr_114 rm.2.1.2.1 (by omega) hs]
        simp (disch := omega) only [if_pos, if_neg, ite_true, ite_false, not_true_eq_false, Bool.false_eq_true, not_false_eq_true, eq_self, obs, ob1, ob2, obx, opx, li_0, li_1, li_2, li_3, li_4, li_5, li_6, li_7, li_8, li_9, li_10, li_14, li_16, li_20, li_21, li_24, li_25, li_32, li_44, li_48, li_57, li_60, li_64, li_81, li_84, li_99, li_100, li_101, li_108, li_111, li_115, li_116, li_120, li_140, li_255, li_500, li_999, li_1000, li_1092, li_1176, li_10000, li_100000, li_1000000, li_N, li_M, nI_add, pk_mul, pk_sub, pk_div, pk_rem, k_mod, nI_clamp, nI_leI, nI_ltI, nI_eq, qin_nI, nI_m1, nN_lt, nN_lt2, nN_le, nN_le2, nN_eq, nN_eq2, qin_nN, Option.some.injEq, Prod.mk.injEq, Sum.inl.injEq, hin, m_ref_0, f1, z]
  · refine okc_x (k := 2) (w := 1) rm ⟨S1, ?_, q1, w1⟩ (fun S => by simp (disch := omega) only [if_pos, if_neg, ite_true, ite_false, not_true_eq_false, Bool.false_eq_true, not_false_eq_true, eq_self, obs, ob1, ob2, obx, opx, li_0, li_1, li_2, li_3, li_4, li_5, li_6, li_7, li_8, li_9, li_10, li_14, li_16, li_20, li_21, li_24, li_25, li_32, li_44, li_48, li_57, li_60, li_64, li_81, li_84, li_99, li_100, li_101, li_108, li_111, li_115, li_116, li_120, li_140, li_255, li_500, li_999, li_1000, li_1092, li_1176, li_10000, li_100000, li_1000000, li_N, li_M, nI_add, pk_mul, pk_sub, pk_div, pk_rem, k_mod, nI_clamp, nI_leI, nI_ltI, nI_eq, qin_nI, nI_m1, nN_lt, nN_lt2, nN_le, nN_le2, nN_eq, nN_eq2, qin_nN, Option.some.injEq, Prod.mk.injEq, Sum.inl.injEq]) (by omega) (by omega) (fun S rm => ⟨nI 0, qup S 111 0 (nI 1), ?_, (rq rm 1).1, (rq rm 1).2.1, (rq rm 1).2.2.1⟩) ok
    · unfold F7_setLength
      simp (disch := omega) only [if_pos, if_neg, ite_true, ite_false, not_true_eq_false, Bool.false_eq_true, not_false_eq_true, eq_self, obs, ob1, ob2, obx, opx, li_0, li_1, li_2, li_3, li_4, li_5, li_6, li_7, li_8, li_9, li_10, li_14, li_16, li_20, li_21, li_24, li_25, li_32, li_44, li_48, li_57, li_60, li_64, li_81, li_84, li_99, li_100, li_101, li_108, li_111, li_115, li_116, li_120, li_140, li_255, li_500, li_999, li_1000, li_1092, li_1176, li_10000, li_100000, li_1000000, li_N, li_M, nI_add, pk_mul, pk_sub, pk_div, pk_rem, k_mod, nI_clamp, nI_leI, nI_ltI, nI_eq, qin_nI, nI_m1, nN_lt, nN_lt2, nN_le, nN_le2, nN_eq, nN_eq2, qin_nN, Option.some.injEq, Prod.mk.injEq, Sum.inl.injEq, e1, c_str_n t1 hv (by omega : 20 ≤ 21) hno, raise1]
    · unfold F8_setLength
      rw [m_isS_n kr_114 rm.2.1.2.1 (by omega) hno]
      simp (disch := omega) only [if_pos, if_neg, ite_true, ite_false, not_true_eq_false, Bool.false_eq_true, not_false_eq_true, eq_self, obs, ob1, ob2, obx, opx, li_0, li_1, li_2, li_3, li_4, li_5, li_6, li_7, li_8, li_9, li_10, li_14, li_16, li_20, li_21, li_24, li_25, li_32, li_44, li_48, li_57, li_60, li_64, li_81, li_84, li_99, li_100, li_101, li_108, li_111, li_115, li_116, li_120, li_140, li_255, li_500, li_999, li_1000, li_1092, li_1176, li_10000, li_100000, li_1000000, li_N, li_M, nI_add, pk_mul, pk_sub, pk_div, pk_rem, k_mod, nI_clamp, nI_leI, nI_ltI, nI_eq, qin_nI, nI_m1, nN_lt, nN_lt2, nN_le, nN_le2, nN_eq, nN_eq2, qin_nN, Option.some.injEq, Prod.mk.injEq, Sum.inl.injEq]
      exact m_throw 1 (by omega) (by omega)
theorem k_close (h : Rel S) (hn : 100000000 ≤ n) (x : Int32) {b : Nat} (hb : b ≤ 1) : okc (CC (FL_close n x (nI b) S) (F8_close n x (nI b))) := by
  obtain ⟨L, c, T, hc, H, F, K, hR, rm, ok⟩ := h
  have hv := ok.2.2.1
  have h20 := hv.2.2.1
  obtain ⟨S1, e1, t1, k1, q1, w1⟩ := c_cp13 (n := n) hR ok (by omega)
  unfold FL_close
  rcases ix x (T 0 1) (by omega) with ⟨s, hs, rfl⟩ | ⟨hno, -⟩
  · have hv2 := vK_shut (s := s) hv hb
    obtain ⟨e, D, p, kk, hG, hD, -⟩ := all_ex hv2 9999
    obtain ⟨S2, e2, t2, k2⟩ := c_shut_y t1 hv (by omega) hs hb
    obtain ⟨S3, e3, r3, w3⟩ := c_chg (n := n) hR ok (kp_tr k1 k2 (fun _ h => h) (fun _ h => h)) t2 hv2 (by omega)
    obtain ⟨S4, e4, r4, w4⟩ := c_tell (n := n) r3 hv2 hG hD (by omega)
    refine okc_r (r := lenI (D (tU T 4 s b 0 2))) (L2 := L) (c2 := c) (T2 := tU T 4 s b) (hc2 := hcP hc) (H2 := hPush hc H T) (F2 := F) (K2 := K) rm ⟨S4, ?_, r4, kC_tr w3 w4⟩ (fun S rm => ?_) (OKA_push ok hv2)
    · unfold F7_close
      simp (disch := omega) only [if_pos, if_neg, ite_true, ite_false, not_true_eq_false, Bool.false_eq_true, not_false_eq_true, eq_self, obs, ob1, ob2, obx, opx, li_0, li_1, li_2, li_3, li_4, li_5, li_6, li_7, li_8, li_9, li_10, li_14, li_16, li_20, li_21, li_24, li_25, li_32, li_44, li_48, li_57, li_60, li_64, li_81, li_84, li_99, li_100, li_101, li_108, li_111, li_115, li_116, li_120, li_140, li_255, li_500, li_999, li_1000, li_1092, li_1176, li_10000, li_100000, li_1000000, li_N, li_M, nI_add, pk_mul, pk_sub, pk_div, pk_rem, k_mod, nI_clamp, nI_leI, nI_ltI, nI_eq, qin_nI, nI_m1, nN_lt, nN_lt2, nN_le, nN_le2, nN_eq, nN_eq2, qin_nN, Option.some.injEq, Prod.mk.injEq, Sum.inl.injEq, e1, e2, raise0, e3, e4]
    · obtain ⟨S5, f1, f2, f3, f4, f5⟩ := m_chg (n := n) rm ok (by omega)
      have g2 := isM_st (x := 4) f2 (Or.inr rfl) (by omega) hs b
      rw [if_neg (by omega)] at g2
      obtain ⟨i1, i2, i3⟩ := f5 _ _ (kp_up kp_rfl (by simp)) g2
      obtain ⟨S7, j1, j2, j3, j4⟩ := m_tell (n := n) i1 hv2 hG hD hn
      refine ⟨S7, ?_, j2, kM_tr i2 j3, j4.trans i3⟩
      unfold F8_close B8_close_17 B8_close_46
      rw [m_isS_y kr_114 rm.2.1.2.1 (by omega) hs]
      rcases (by omega : b = 0 ∨ b = 1) with rfl | rfl <;> simp (disch := omega) only [if_pos, if_neg, ite_true, ite_false, not_true_eq_false, Bool.false_eq_true, not_false_eq_true, eq_self, obs, ob1, ob2, obx, opx, li_0, li_1, li_2, li_3, li_4, li_5, li_6, li_7, li_8, li_9, li_10, li_14, li_16, li_20, li_21, li_24, li_25, li_32, li_44, li_48, li_57, li_60, li_64, li_81, li_84, li_99, li_100, li_101, li_108, li_111, li_115, li_116, li_120, li_140, li_255, li_500, li_999, li_1000, li_1092, li_1176, li_10000, li_100000, li_1000000, li_N, li_M, nI_add, pk_mul, pk_sub, pk_div, pk_rem, k_mod, nI_clamp, nI_leI, nI_ltI, nI_eq, qin_nI, nI_m1, nN_lt, nN_lt2, nN_le, nN_le2, nN_eq, nN_eq2, qin_nN, Option.some.injEq, Prod.mk.injEq, Sum.inl.injEq, m_ref_0, f1, j1]
  · refine okc_x (k := 2) (w := 1) rm ⟨S1, ?_, q1, w1⟩ (fun S => by simp (disch := omega) only [if_pos, if_neg, ite_true, ite_false, not_true_eq_false, Bool.false_eq_true, not_false_eq_true, eq_self, obs, ob1, ob2, obx, opx, li_0, li_1, li_2, li_3, li_4, li_5, li_6, li_7, li_8, li_9, li_10, li_14, li_16, li_20, li_21, li_24, li_25, li_32, li_44, li_48, li_57, li_60, li_64, li_81, li_84, li_99, li_100, li_101, li_108, li_111, li_115, li_116, li_120, li_140, li_255, li_500, li_999, li_1000, li_1092, li_1176, li_10000, li_100000, li_1000000, li_N, li_M, nI_add, pk_mul, pk_sub, pk_div, pk_rem, k_mod, nI_clamp, nI_leI, nI_ltI, nI_eq, qin_nI, nI_m1, nN_lt, nN_lt2, nN_le, nN_le2, nN_eq, nN_eq2, qin_nN, Option.some.injEq, Prod.mk.injEq, Sum.inl.injEq]) (by omega) (by omega) (fun S rm => ⟨nI 0, qup S 111 0 (nI 1), ?_, (rq rm 1).1, (rq rm 1).2.1, (rq rm 1).2.2.1⟩) ok
    · unfold F7_close
      simp (disch := omega) only [if_pos, if_neg, ite_true, ite_false, not_true_eq_false, Bool.false_eq_true, not_false_eq_true, eq_self, obs, ob1, ob2, obx, opx, li_0, li_1, li_2, li_3, li_4, li_5, li_6, li_7, li_8, li_9, li_10, li_14, li_16, li_20, li_21, li_24, li_25, li_32, li_44, li_48, li_57, li_60, li_64, li_81, li_84, li_99, li_100, li_101, li_108, li_111, li_115, li_116, li_120, li_140, li_255, li_500, li_999, li_1000, li_1092, li_1176, li_10000, li_100000, li_1000000, li_N, li_M, nI_add, pk_mul, pk_sub, pk_div, pk_rem, k_mod, nI_clamp, nI_leI, nI_ltI, nI_eq, qin_nI, nI_m1, nN_lt, nN_lt2, nN_le, nN_le2, nN_eq, nN_eq2, qin_nN, Option.some.injEq, Prod.mk.injEq, Sum.inl.injEq, e1, c_shut_n t1 hv (by omega : 20 ≤ 21) hno, raise1]
    · unfold F8_close
      rw [m_isS_n kr_114 rm.2.1.2.1 (by omega) hno]
      simp (disch := omega) only [if_pos, if_neg, ite_true, ite_false, not_true_eq_false, Bool.false_eq_true, not_false_eq_true, eq_self, obs, ob1, ob2, obx, opx, li_0, li_1, li_2, li_3, li_4, li_5, li_6, li_7, li_8, li_9, li_10, li_14, li_16, li_20, li_21, li_24, li_25, li_32, li_44, li_48, li_57, li_60, li_64, li_81, li_84, li_99, li_100, li_101, li_108, li_111, li_115, li_116, li_120, li_140, li_255, li_500, li_999, li_1000, li_1092, li_1176, li_10000, li_100000, li_1000000, li_N, li_M, nI_add, pk_mul, pk_sub, pk_div, pk_rem, k_mod, nI_clamp, nI_leI, nI_ltI, nI_eq, qin_nI, nI_m1, nN_lt, nN_lt2, nN_le, nN_le2, nN_eq, nN_eq2, qin_nN, Option.some.injEq, Prod.mk.injEq, Sum.inl.injEq]
      exact m_throw 1 (by omega) (by omega)
theorem k_setEnds (h : Rel S) (hn : 100000000 ≤ n) (x y : Int32) : okc (CC (FL_setEnds n x y S) (F8_setEnds n x y)) := by
  obtain ⟨L, c, T, hc, H, F, K, hR, rm, ok⟩ := h
  have hv := ok.2.2.1
  have h9 := hv.2.1
  have h2 := hv.1
  obtain ⟨S1, e1, t1, k1, q1, w1⟩ := c_cp13 (n := n) hR ok (by omega)
  unfold FL_setEnds
  rcases ix x (T 0 0) (by omega) with ⟨a, ha, rfl⟩ | ⟨hno, -⟩
  · rcases ix y (T 0 0) (by omega) with ⟨b, hb, rfl⟩ | ⟨hno, -⟩
    · by_cases hab : a = b
      · subst hab
        refine okc_x (k := 0) (w := 2) rm ⟨S1, ?_, q1, w1⟩ (fun S => by simp (disch := omega) only [if_pos, if_neg, ite_true, ite_false, not_true_eq_false, Bool.false_eq_true, not_false_eq_true, eq_self, obs, ob1, ob2, obx, opx, li_0, li_1, li_2, li_3, li_4, li_5, li_6, li_7, li_8, li_9, li_10, li_14, li_16, li_20, li_21, li_24, li_25, li_32, li_44, li_48, li_57, li_60, li_64, li_81, li_84, li_99, li_100, li_101, li_108, li_111, li_115, li_116, li_120, li_140, li_255, li_500, li_999, li_1000, li_1092, li_1176, li_10000, li_100000, li_1000000, li_N, li_M, nI_add, pk_mul, pk_sub, pk_div, pk_rem, k_mod, nI_clamp, nI_leI, nI_ltI, nI_eq, qin_nI, nI_m1, nN_lt, nN_lt2, nN_le, nN_le2, nN_eq, nN_eq2, qin_nN, Option.some.injEq, Prod.mk.injEq, Sum.inl.injEq]) (by omega) (by omega) (fun S rm => ⟨nI 0, qup S 111 0 (nI 2), ?_, (rq rm 2).1, (rq rm 2).2.1, (rq rm 2).2.2.1⟩) ok
        · unfold F7_setEnds
          simp (disch := omega) only [if_pos, if_neg, ite_true, ite_false, not_true_eq_false, Bool.false_eq_true, not_false_eq_true, eq_self, obs, ob1, ob2, obx, opx, li_0, li_1, li_2, li_3, li_4, li_5, li_6, li_7, li_8, li_9, li_10, li_14, li_16, li_20, li_21, li_24, li_25, li_32, li_44, li_48, li_57, li_60, li_64, li_81, li_84, li_99, li_100, li_101, li_108, li_111, li_115, li_116, li_120, li_140, li_255, li_500, li_999, li_1000, li_1092, li_1176, li_10000, li_100000, li_1000000, li_N, li_M, nI_add, pk_mul, pk_sub, pk_div, pk_rem, k_mod, nI_clamp, nI_leI, nI_ltI, nI_eq, qin_nI, nI_m1, nN_lt, nN_lt2, nN_le, nN_le2, nN_eq, nN_eq2, qin_nN, Option.some.injEq, Prod.mk.injEq, Sum.inl.injEq, e1, c_dir_2 t1 hv ha, raise2]
        · unfold F8_setEnds
          rw [m_isC_y kr_114 rm.2.1.1 (by omega) ha]
          simp (disch := omega) only [if_pos, if_neg, ite_true, ite_false, not_true_eq_false, Bool.false_eq_true, not_false_eq_true, eq_self, obs, ob1, ob2, obx, opx, li_0, li_1, li_2, li_3, li_4, li_5, li_6, li_7, li_8, li_9, li_10, li_14, li_16, li_20, li_21, li_24, li_25, li_32, li_44, li_48, li_57, li_60, li_64, li_81, li_84, li_99, li_100, li_101, li_108, li_111, li_115, li_116, li_120, li_140, li_255, li_500, li_999, li_1000, li_1092, li_1176, li_10000, li_100000, li_1000000, li_N, li_M, nI_add, pk_mul, pk_sub, pk_div, pk_rem, k_mod, nI_clamp, nI_leI, nI_ltI, nI_eq, qin_nI, nI_m1, nN_lt, nN_lt2, nN_le, nN_le2, nN_eq, nN_eq2, qin_nN, Option.some.injEq, Prod.mk.injEq, Sum.inl.injEq]
          exact m_throw 2 (by omega) (by omega)
      · have hv2 := vK_dir hv ha hb hab
        obtain ⟨e, D, p, kk, hG, hD, -⟩ := all_ex hv2 9999
        obtain ⟨S2, e2, t2, k2⟩ := c_dir_0 t1 hv ha hb hab
        obtain ⟨S3, e3, r3, w3⟩ := c_chg (n := n) hR ok (kp_tr k1 k2 (fun _ h => h) (fun _ h => h)) t2 hv2 (by omega)
        obtain ⟨S4, e4, r4, w4⟩ := c_tell (n := n) r3 hv2 hG hD (by omega)
        refine okc_r (r := lenI (D (tU (tU T 0 2 a) 0 3 b 0 2))) (L2 := L) (c2 := c) (T2 := tU (tU T 0 2 a) 0 3 b) (hc2 := hcP hc) (H2 := hPush hc H T) (F2 := F) (K2 := K) rm ⟨S4, ?_, r4, kC_tr w3 w4⟩ (fun S rm => ?_) (OKA_push ok hv2)
        · unfold F7_setEnds
          simp (disch := omega) only [if_pos, if_neg, ite_true, ite_false, not_true_eq_false, Bool.false_eq_true, not_false_eq_true, eq_self, obs, ob1, ob2, obx, opx, li_0, li_1, li_2, li_3, li_4, li_5, li_6, li_7, li_8, li_9, li_10, li_14, li_16, li_20, li_21, li_24, li_25, li_32, li_44, li_48, li_57, li_60, li_64, li_81, li_84, li_99, li_100, li_101, li_108, li_111, li_115, li_116, li_120, li_140, li_255, li_500, li_999, li_1000, li_1092, li_1176, li_10000, li_100000, li_1000000, li_N, li_M, nI_add, pk_mul, pk_sub, pk_div, pk_rem, k_mod, nI_clamp, nI_leI, nI_ltI, nI_eq, qin_nI, nI_m1, nN_lt, nN_lt2, nN_le, nN_le2, nN_eq, nN_eq2, qin_nN, Option.some.injEq, Prod.mk.injEq, Sum.inl.injEq, e1, e2, raise0, e3, e4]
        · obtain ⟨S5, f1, f2, f3, f4, f5⟩ := m_chg (n := n) rm ok (by omega)
          obtain ⟨i1, i2, i3⟩ := f5 _ _ (kp_up (kp_up kp_rfl (by simp)) (by simp)) (isM_hd (isM_hd f2 (show 2 < 4 by omega) (by omega) a) (show 3 < 4 by omega) (by omega) b)
          obtain ⟨S7, j1, j2, j3, j4⟩ := m_tell (n := n) i1 hv2 hG hD hn
          refine ⟨S7, ?_, j2, kM_tr i2 j3, j4.trans i3⟩
          unfold F8_setEnds B8_setEnds_37
          rw [m_isC_y kr_114 rm.2.1.1 (by omega) ha, m_isC_y kr_114 rm.2.1.1 (by omega) hb]
          simp (disch := omega) only [if_pos, if_neg, ite_true, ite_false, not_true_eq_false, Bool.false_eq_true, not_false_eq_true, eq_self, obs, ob1, ob2, obx, opx, li_0, li_1, li_2, li_3, li_4, li_5, li_6, li_7, li_8, li_9, li_10, li_14, li_16, li_20, li_21, li_24, li_25, li_32, li_44, li_48, li_57, li_60, li_64, li_81, li_84, li_99, li_100, li_101, li_108, li_111, li_115, li_116, li_120, li_140, li_255, li_500, li_999, li_1000, li_1092, li_1176, li_10000, li_100000, li_1000000, li_N, li_M, nI_add, pk_mul, pk_sub, pk_div, pk_rem, k_mod, nI_clamp, nI_leI, nI_ltI, nI_eq, qin_nI, nI_m1, nN_lt, nN_lt2, nN_le, nN_le2, nN_eq, nN_eq2, qin_nN, Option.some.injEq, Prod.mk.injEq, Sum.inl.injEq, m_ref_0, f1, j1]
    · refine okc_x (k := 2) (w := 1) rm ⟨S1, ?_, q1, w1⟩ (fun S => by simp (disch := omega) only [if_pos, if_neg, ite_true, ite_false, not_true_eq_false, Bool.false_eq_true, not_false_eq_true, eq_self, obs, ob1, ob2, obx, opx, li_0, li_1, li_2, li_3, li_4, li_5, li_6, li_7, li_8, li_9, li_10, li_14, li_16, li_20, li_21, li_24, li_25, li_32, li_44, li_48, li_57, li_60, li_64, li_81, li_84, li_99, li_100, li_101, li_108, li_111, li_115, li_116, li_120, li_140, li_255, li_500, li_999, li_1000, li_1092, li_1176, li_10000, li_100000, li_1000000, li_N, li_M, nI_add, pk_mul, pk_sub, pk_div, pk_rem, k_mod, nI_clamp, nI_leI, nI_ltI, nI_eq, qin_nI, nI_m1, nN_lt, nN_lt2, nN_le, nN_le2, nN_eq, nN_eq2, qin_nN, Option.some.injEq, Prod.mk.injEq, Sum.inl.injEq]) (by omega) (by omega) (fun S rm => ⟨nI 0, qup S 111 0 (nI 1), ?_, (rq rm 1).1, (rq rm 1).2.1, (rq rm 1).2.2.1⟩) ok
      · unfold F7_setEnds
        simp (disch := omega) only [if_pos, if_neg, ite_true, ite_false, not_true_eq_false, Bool.false_eq_true, not_false_eq_true, eq_self, obs, ob1, ob2, obx, opx, li_0, li_1, li_2, li_3, li_4, li_5, li_6, li_7, li_8, li_9, li_10, li_14, li_16, li_20, li_21, li_24, li_25, li_32, li_44, li_48, li_57, li_60, li_64, li_81, li_84, li_99, li_100, li_101, li_108, li_111, li_115, li_116, li_120, li_140, li_255, li_500, li_999, li_1000, li_1092, li_1176, li_10000, li_100000, li_1000000, li_N, li_M, nI_add, pk_mul, pk_sub, pk_div, pk_rem, k_mod, nI_clamp, nI_leI, nI_ltI, nI_eq, qin_nI, nI_m1, nN_lt, nN_lt2, nN_le, nN_le2, nN_eq, nN_eq2, qin_nN, Option.some.injEq, Prod.mk.injEq, Sum.inl.injEq, e1, c_dir_1 t1 hv (Or.inr hno), raise1]
      · unfold F8_setEnds B8_setEnds_23
        rw [m_isC_y kr_114 rm.2.1.1 (by omega) ha, m_isC_n kr_114 rm.2.1.1 (by omega) (by omega) hno]
        simp (disch := omega) only [if_pos, if_neg, ite_true, ite_false, not_true_eq_false, Bool.false_eq_true, not_false_eq_true, eq_self, obs, ob1, ob2, obx, opx, li_0, li_1, li_2, li_3, li_4, li_5, li_6, li_7, li_8, li_9, li_10, li_14, li_16, li_20, li_21, li_24, li_25, li_32, li_44, li_48, li_57, li_60, li_64, li_81, li_84, li_99, li_100, li_101, li_108, li_111, li_115, li_116, li_120, li_140, li_255, li_500, li_999, li_1000, li_1092, li_1176, li_10000, li_100000, li_1000000, li_N, li_M, nI_add, pk_mul, pk_sub, pk_div, pk_rem, k_mod, nI_clamp, nI_leI, nI_ltI, nI_eq, qin_nI, nI_m1, nN_lt, nN_lt2, nN_le, nN_le2, nN_eq, nN_eq2, qin_nN, Option.some.injEq, Prod.mk.injEq, Sum.inl.injEq]
        exact m_throw 1 (by omega) (by omega)
  · refine okc_x (k := 2) (w := 1) rm ⟨S1, ?_, q1, w1⟩ (fun S => by simp (disch := omega) only [if_pos, if_neg, ite_true, ite_false, not_true_eq_false, Bool.false_eq_true, not_false_eq_true, eq_self, obs, ob1, ob2, obx, opx, li_0, li_1, li_2, li_3, li_4, li_5, li_6, li_7, li_8, li_9, li_10, li_14, li_16, li_20, li_21, li_24, li_25, li_32, li_44, li_48, li_57, li_60, li_64, li_81, li_84, li_99, li_100, li_101, li_108, li_111, li_115, li_116, li_120, li_140, li_255, li_500, li_999, li_1000, li_1092, li_1176, li_10000, li_100000, li_1000000, li_N, li_M, nI_add, pk_mul, pk_sub, pk_div, pk_rem, k_mod, nI_clamp, nI_leI, nI_ltI, nI_eq, qin_nI, nI_m1, nN_lt, nN_lt2, nN_le, nN_le2, nN_eq, nN_eq2, qin_nN, Option.some.injEq, Prod.mk.injEq, Sum.inl.injEq]) (by omega) (by omega) (fun S rm => ⟨nI 0, qup S 111 0 (nI 1), ?_, (rq rm 1).1, (rq rm 1).2.1, (rq rm 1).2.2.1⟩) ok
    · unfold F7_setEnds
      simp (disch := omega) only [if_pos, if_neg, ite_true, ite_false, not_true_eq_false, Bool.false_eq_true, not_false_eq_true, eq_self, obs, ob1, ob2, obx, opx, li_0, li_1, li_2, li_3, li_4, li_5, li_6, li_7, li_8, li_9, li_10, li_14, li_16, li_20, li_21, li_24, li_25, li_32, li_44, li_48, li_57, li_60, li_64, li_81, li_84, li_99, li_100, li_101, li_108, li_111, li_115, li_116, li_120, li_140, li_255, li_500, li_999, li_1000, li_1092, li_1176, li_10000, li_100000, li_1000000, li_N, li_M, nI_add, pk_mul, pk_sub, pk_div, pk_rem, k_mod, nI_clamp, nI_leI, nI_ltI, nI_eq, qin_nI, nI_m1, nN_lt, nN_lt2, nN_le, nN_le2, nN_eq, nN_eq2, qin_nN, Option.some.injEq, Prod.mk.injEq, Sum.inl.injEq, e1, c_dir_1 (y := y) t1 hv (Or.inl hno), raise1]
    · unfold F8_setEnds B8_setEnds_23
      rw [m_isC_n kr_114 rm.2.1.1 (by omega) (by omega) hno]
      simp (disch := omega) only [if_pos, if_neg, ite_true, ite_false, not_true_eq_false, Bool.false_eq_true, not_false_eq_true, eq_self, obs, ob1, ob2, obx, opx, li_0, li_1, li_2, li_3, li_4, li_5, li_6, li_7, li_8, li_9, li_10, li_14, li_16, li_20, li_21, li_24, li_25, li_32, li_44, li_48, li_57, li_60, li_64, li_81, li_84, li_99, li_100, li_101, li_108, li_111, li_115, li_116, li_120, li_140, li_255, li_500, li_999, li_1000, li_1092, li_1176, li_10000, li_100000, li_1000000, li_N, li_M, nI_add, pk_mul, pk_sub, pk_div, pk_rem, k_mod, nI_clamp, nI_leI, nI_ltI, nI_eq, qin_nI, nI_m1, nN_lt, nN_lt2, nN_le, nN_le2, nN_eq, nN_eq2, qin_nN, Option.some.injEq, Prod.mk.injEq, Sum.inl.injEq]
      exact m_throw 1 (by omega) (by omega)
end QCH
