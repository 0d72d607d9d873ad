/-! SAVES -/
theorem c_put {S : qSt} {n a b l : Nat} {T : Tn} {e : Gr} (hT : isT S 13 T) (hv : vT T) (hG : isG e T 9999) (ha : a < T 0 0) (hb : b < T 0 0) (hab : a ≠ b) (l1 : 1 ≤ l) (l2 : l ≤ 99) (hn : 100 ≤ n) : ∃ S2 T2, F5_replace n 13 (nI a) (nI b) (nI l) S = some S2 ∧ isT S2 13 T2 ∧ kp (pT 13) S S2 ∧ vK 21 T2 ∧ isG (eU e a b l) T2 9999 ∧ T2 0 2 = T 0 2 ∧ T2 0 3 = T 0 3 := by
  have h9 := hv.2.1
  by_cases hj : tj T a b = nN
  · obtain ⟨S2, e2, t2, k2⟩ := c_rep_n (n := n) (a := a) (b := b) (l := l) hT hv (by omega) (by omega) (by omega) hj hn
    refine ⟨S2, tA T a b l, e2, t2, k2, vK_add (vK_mono hv (by omega)) (by omega) (by have := hv.2.2.1; omega) ha hb hab l1 l2 hj, isG_add hv (by omega) hG hj hab (by omega), ?_, ?_⟩
    · unfold tA tP
      simp (disch := omega) only [qup_e, if_pos, if_neg, ite_true, ite_false, eq_self, and_self, true_and, and_true, tU]
    · unfold tA tP
      simp (disch := omega) only [qup_e, if_pos, if_neg, ite_true, ite_false, eq_self, and_self, true_and, and_true, tU]
  · obtain ⟨s, hs, hj2, g1, g2⟩ := tj_S hj
    obtain ⟨S2, e2, t2, k2⟩ := c_rep_y (n := n) (a := a) (b := b) (l := l) hT hv (by omega) (by omega) (by omega) hs hj2 hn
    refine ⟨S2, tP T s a b l, e2, t2, k2, vK_mono (vK_put hv hs g1 g2 l1 l2) (by omega), (isG_put hv (by omega) hG hs g1 g2).resolve_right (by omega), ?_, ?_⟩
    · unfold tP
      rw [if_pos rfl]
    · unfold tP
      rw [if_pos rfl]
theorem k_saves {S : qSt} {n : Nat} (h : Rel S) (hn : 100000000 ≤ n) (x y z : Int32) : okc (CC (FL_saves n x y z S) (F8_saves n x y z)) := by
  obtain ⟨L, c, T, hc, H, F, K, hR, rm, ok⟩ := h
  have hv := ok.2.2.1
  have h9 := hv.2.1
  have h2 := hv.1
  have h20 := hv.2.2.1
  have hT := hR.2.1
  unfold FL_saves
  rcases ix x (T 0 0) (by omega) with ⟨a, ha, rfl⟩ | ⟨hno, -⟩
  · rcases ix y (T 0 0) (by omega) with ⟨b, hb, rfl⟩ | ⟨hno, -⟩
    · by_cases hab : a = b
      · subst hab
        refine okc_e (k := 0) (w := 2) hR rm ok ?_ (fun S => by simp (disch := omega) only [if_pos, if_neg, ite_true, ite_false, not_true_eq_false, Bool.false_eq_true, not_false_eq_true, eq_self, obs, ob1, ob2, obx, opx, li_0, li_1, li_2, li_3, li_4, li_5, li_6, li_7, li_8, li_9, li_10, li_14, li_16, li_20, li_21, li_24, li_25, li_32, li_44, li_48, li_57, li_60, li_64, li_81, li_84, li_99, li_100, li_101, li_108, li_111, li_115, li_116, li_120, li_140, li_255, li_500, li_999, li_1000, li_1092, li_1176, li_10000, li_100000, li_1000000, li_N, li_M, nI_add, pk_mul, pk_sub, pk_div, pk_rem, k_mod, nI_clamp, nI_leI, nI_ltI, nI_eq, qin_nI, nI_m1, nN_lt, nN_lt2, nN_le, nN_le2, nN_eq, nN_eq2, qin_nN, Option.some.injEq, Prod.mk.injEq, Sum.inl.injEq]) (by omega) (by omega) (fun S rm => ?_)
        · unfold F7_saves
          simp (disch := omega) only [if_pos, if_neg, ite_true, ite_false, not_true_eq_false, Bool.false_eq_true, not_false_eq_true, eq_self, obs, ob1, ob2, obx, opx, li_0, li_1, li_2, li_3, li_4, li_5, li_6, li_7, li_8, li_9, li_10, li_14, li_16, li_20, li_21, li_24, li_25, li_32, li_44, li_48, li_57, li_60, li_64, li_81, li_84, li_99, li_100, li_101, li_108, li_111, li_115, li_116, li_120, li_140, li_255, li_500, li_999, li_1000, li_1092, li_1176, li_10000, li_100000, li_1000000, li_N, li_M, nI_add, pk_mul, pk_sub, pk_div, pk_rem, k_mod, nI_clamp, nI_leI, nI_ltI, nI_eq, qin_nI, nI_m1, nN_lt, nN_lt2, nN_le, nN_le2, nN_eq, nN_eq2, qin_nN, Option.some.injEq, Prod.mk.injEq, Sum.inl.injEq, c_rp_2 hT hv ha, raise2]
        · unfold F8_saves B8_saves_44
          rw [m_isC_y kr_114 rm.2.1.1 (by omega) ha]
          simp (disch := omega) only [if_pos, if_neg, ite_true, ite_false, not_true_eq_false, Bool.false_eq_true, not_false_eq_true, eq_self, obs, ob1, ob2, obx, opx, li_0, li_1, li_2, li_3, li_4, li_5, li_6, li_7, li_8, li_9, li_10, li_14, li_16, li_20, li_21, li_24, li_25, li_32, li_44, li_48, li_57, li_60, li_64, li_81, li_84, li_99, li_100, li_101, li_108, li_111, li_115, li_116, li_120, li_140, li_255, li_500, li_999, li_1000, li_1092, li_1176, li_10000, li_100000, li_1000000, li_N, li_M, nI_add, pk_mul, pk_sub, pk_div, pk_rem, k_mod, nI_clamp, nI_leI, nI_ltI, nI_eq, qin_nI, nI_m1, nN_lt, nN_lt2, nN_le, nN_le2, nN_eq, nN_eq2, qin_nN, Option.some.injEq, Prod.mk.injEq, Sum.inl.injEq]
          exact m_throw 2 (by omega) (by omega)
      · by_cases hl : ∀ l, 1 ≤ l → l ≤ 99 → z ≠ nI l
        · refine okc_e (k := 0) (w := 2) hR rm ok ?_ (fun S => by simp (disch := omega) only [if_pos, if_neg, ite_true, ite_false, not_true_eq_false, Bool.false_eq_true, not_false_eq_true, eq_self, obs, ob1, ob2, obx, opx, li_0, li_1, li_2, li_3, li_4, li_5, li_6, li_7, li_8, li_9, li_10, li_14, li_16, li_20, li_21, li_24, li_25, li_32, li_44, li_48, li_57, li_60, li_64, li_81, li_84, li_99, li_100, li_101, li_108, li_111, li_115, li_116, li_120, li_140, li_255, li_500, li_999, li_1000, li_1092, li_1176, li_10000, li_100000, li_1000000, li_N, li_M, nI_add, pk_mul, pk_sub, pk_div, pk_rem, k_mod, nI_clamp, nI_leI, nI_ltI, nI_eq, qin_nI, nI_m1, nN_lt, nN_lt2, nN_le, nN_le2, nN_eq, nN_eq2, qin_nN, Option.some.injEq, Prod.mk.injEq, Sum.inl.injEq]) (by omega) (by omega) (fun S rm => ?_)
          · unfold F7_saves
            simp (disch := omega) only [if_pos, if_neg, ite_true, ite_false, not_true_eq_false, Bool.false_eq_true, not_false_eq_true, eq_self, obs, ob1, ob2, obx, opx, li_0, li_1, li_2, li_3, li_4, li_5, li_6, li_7, li_8, li_9, li_10, li_14, li_16, li_20, li_21, li_24, li_25, li_32, li_44, li_48, li_57, li_60, li_64, li_81, li_84, li_99, li_100, li_101, li_108, li_111, li_115, li_116, li_120, li_140, li_255, li_500, li_999, li_1000, li_1092, li_1176, li_10000, li_100000, li_1000000, li_N, li_M, nI_add, pk_mul, pk_sub, pk_div, pk_rem, k_mod, nI_clamp, nI_leI, nI_ltI, nI_eq, qin_nI, nI_m1, nN_lt, nN_lt2, nN_le, nN_le2, nN_eq, nN_eq2, qin_nN, Option.some.injEq, Prod.mk.injEq, Sum.inl.injEq, c_rp_0 hT hv ha hb hab, raise0, rol_n hl, raise2]
          · have hin : F8_in z.toInt64 1 99 S = nI 0 := by
              rw [l64_1, l64_99]
              exact in_n S hl (by omega) (by omega)
            unfold F8_saves B8_saves_44
            rw [m_isC_y kr_114 rm.2.1.1 (by omega) ha, m_isC_y kr_114 rm.2.1.1 (by omega) hb]
            simp (disch := omega) only [if_pos, if_neg, ite_true, ite_false, not_true_eq_false, Bool.false_eq_true, not_false_eq_true, eq_self, obs, ob1, ob2, obx, opx, li_0, li_1, li_2, li_3, li_4, li_5, li_6, li_7, li_8, li_9, li_10, li_14, li_16, li_20, li_21, li_24, li_25, li_32, li_44, li_48, li_57, li_60, li_64, li_81, li_84, li_99, li_100, li_101, li_108, li_111, li_115, li_116, li_120, li_140, li_255, li_500, li_999, li_1000, li_1092, li_1176, li_10000, li_100000, li_1000000, li_N, li_M, nI_add, pk_mul, pk_sub, pk_div, pk_rem, k_mod, nI_clamp, nI_leI, nI_ltI, nI_eq, qin_nI, nI_m1, nN_lt, nN_lt2, nN_le, nN_le2, nN_eq, nN_eq2, qin_nN, Option.some.injEq, Prod.mk.injEq, Sum.inl.injEq, hin]
            exact m_throw 2 (by omega) (by omega)
        · have hl2 : ∃ l, 1 ≤ l ∧ l ≤ 99 ∧ z = nI l := Classical.byContradiction fun q => hl (fun l h1 h2 h3 => q ⟨l, h1, h2, h3⟩)
          obtain ⟨l, l1, l2, rfl⟩ := hl2
          obtain ⟨e, D, p, kk, hG, hD, hp, he, f1, f2, f3, hDU⟩ := all_ex hv 9999
          obtain ⟨S1, e1, k1⟩ := c_bl (n := n) hT (Or.inl (by omega)) hv (by omega) hG (by omega) hD (by omega)
          have hT1 := isT_ap hT (Or.inl (by omega)) k1
          obtain ⟨S2, e2, t2, k2⟩ := c_cp (o := 13) (n := n) hT1 hv (by omega) (by omega) (by omega)
          obtain ⟨S3, T2, e3, t3, k3, v3, G3, q2, q3⟩ := c_put (n := n) t2 hv hG ha hb hab l1 l2 (by omega)
          have he2 := isG_ok v3 G3
          have hgo := hv.2.2.2.2.1
          have hst := hv.2.2.2.1
          obtain ⟨D2, hD2⟩ := gD_ex 100 he2 (show T 0 3 < 9 by omega)
          obtain ⟨S4, e4, k4⟩ := c_bl (n := n) t3 (Or.inl (by omega)) v3 (by omega) G3 (by have := v3.2.2.1; omega) (by rw [q3]; exact hD2) (by omega)
          rw [q2] at e4
          have kk4 : kp pW S S4 := kp_tr (kp_tr (R := pW) (kp_tr (R := pW) k1 k2 (by simp) (by simp)) k3 (fun _ h => h) (by simp)) k4 (fun _ h => h) (by simp)
          refine okc_q (r := if lenI (D (T 0 2)) = nN then nN else if lenI (D2 (T 0 2)) = nN then nN else lenI (D (T 0 2)) - lenI (D2 (T 0 2))) rm ⟨S4, ?_, RC_kp hR kk4 (by simp), kC_kp kk4 (by simp)⟩ (fun S rm => ?_) ok
          · unfold F7_saves B7_saves_76
            simp (disch := omega) only [if_pos, if_neg, ite_true, ite_false, not_true_eq_false, Bool.false_eq_true, not_false_eq_true, eq_self, obs, ob1, ob2, obx, opx, li_0, li_1, li_2, li_3, li_4, li_5, li_6, li_7, li_8, li_9, li_10, li_14, li_16, li_20, li_21, li_24, li_25, li_32, li_44, li_48, li_57, li_60, li_64, li_81, li_84, li_99, li_100, li_101, li_108, li_111, li_115, li_116, li_120, li_140, li_255, li_500, li_999, li_1000, li_1092, li_1176, li_10000, li_100000, li_1000000, li_N, li_M, nI_add, pk_mul, pk_sub, pk_div, pk_rem, k_mod, nI_clamp, nI_leI, nI_ltI, nI_eq, qin_nI, nI_m1, nN_lt, nN_lt2, nN_le, nN_le2, nN_eq, nN_eq2, qin_nN, Option.some.injEq, Prod.mk.injEq, Sum.inl.injEq, c_rp_0 hT hv ha hb hab, raise0, rol_y l1 l2, e1, e2, e3, e4]
            by_cases w : lenI (D (T 0 2)) = nN
            · rw [if_pos w, if_pos w]
            · rw [if_neg w, if_neg w]
              by_cases w2 : lenI (D2 (T 0 2)) = nN
              · rw [if_neg (by simpa using w2), if_pos w2]
              · rw [if_pos w2, if_neg w2]
          · obtain ⟨r1, r2, r3, r4⟩ := rq rm 0
            obtain ⟨S5, e5, k5, -, c5⟩ := m_bb (n := n) kr_114 (by omega) r4 hv hG hD hn
            rw [bI_N] at e5
            obtain ⟨S6, e6, k6, c6⟩ := m_price_C (a := a) (b := b) (l := l) (by omega) (by omega) c5
            rw [show cst l = 100 * l + 1 from if_neg (by omega)] at e6
            have k56 : kp [120, 121] (qup S 111 0 (nI 0)) S6 := kp_tr k5 k6 (fun _ h => h) (by simp)
            have hT6 := isM_kp r4 k56 (by decide)
            obtain ⟨S7, e7, k7, -⟩ := m_best (n := n) kr_114 (by omega) hT6 hv he2 c6 hD2 hn
            obtain ⟨g1, g2, g3⟩ := m_keep2 r1 (kp_tr (R := [120, 121]) k56 k7 (fun _ h => h) (by simp))
            have hin : F8_in (nI l).toInt64 1 99 S = nI 1 := by
              rw [l64_1, l64_99]
              exact in_y S l1 l2 (by omega)
            refine ⟨S7, ?_, g1, kM_tr r2 g2, g3.trans r3⟩
            unfold F8_saves B8_saves_49 B8_saves_108
            rw [m_isC_y kr_114 rm.2.1.1 (by omega) ha, m_isC_y kr_114 rm.2.1.1 (by omega) hb]
            simp (disch := omega) only [if_pos, if_neg, ite_true, ite_false, not_true_eq_false, Bool.false_eq_true, not_false_eq_true, eq_self, obs, ob1, ob2, obx, opx, li_0, li_1, li_2, li_3, li_4, li_5, li_6, li_7, li_8, li_9, li_10, li_14, li_16, li_20, li_21, li_24, li_25, li_32, li_44, li_48, li_57, li_60, li_64, li_81, li_84, li_99, li_100, li_101, li_108, li_111, li_115, li_116, li_120, li_140, li_255, li_500, li_999, li_1000, li_1092, li_1176, li_10000, li_100000, li_1000000, li_N, li_M, nI_add, pk_mul, pk_sub, pk_div, pk_rem, k_mod, nI_clamp, nI_leI, nI_ltI, nI_eq, qin_nI, nI_m1, nN_lt, nN_lt2, nN_le, nN_le2, nN_eq, nN_eq2, qin_nN, Option.some.injEq, Prod.mk.injEq, Sum.inl.injEq, hin, m_ref_0, e5, e6, e7]
            by_cases w : lenI (D (T 0 2)) = nN
            · rw [if_pos w, if_pos w]
            · rw [if_neg w, if_neg w]
              by_cases w2 : lenI (D2 (T 0 2)) = nN
              · rw [if_neg (by simpa using w2), if_pos w2]
              · rw [if_pos w2, if_neg w2]
    · refine okc_e (k := 2) (w := 1) hR rm ok ?_ (fun S => by simp (disch := omega) only [if_pos, if_neg, ite_true, ite_false, not_true_eq_false, Bool.false_eq_true, not_false_eq_true, eq_self, obs, ob1, ob2, obx, opx, li_0, li_1, li_2, li_3, li_4, li_5, li_6, li_7, li_8, li_9, li_10, li_14, li_16, li_20, li_21, li_24, li_25, li_32, li_44, li_48, li_57, li_60, li_64, li_81, li_84, li_99, li_100, li_101, li_108, li_111, li_115, li_116, li_120, li_140, li_255, li_500, li_999, li_1000, li_1092, li_1176, li_10000, li_100000, li_1000000, li_N, li_M, nI_add, pk_mul, pk_sub, pk_div, pk_rem, k_mod, nI_clamp, nI_leI, nI_ltI, nI_eq, qin_nI, nI_m1, nN_lt, nN_lt2, nN_le, nN_le2, nN_eq, nN_eq2, qin_nN, Option.some.injEq, Prod.mk.injEq, Sum.inl.injEq]) (by omega) (by omega) (fun S rm => ?_)
      · unfold F7_saves
        simp (disch := omega) only [if_pos, if_neg, ite_true, ite_false, not_true_eq_false, Bool.false_eq_true, not_false_eq_true, eq_self, obs, ob1, ob2, obx, opx, li_0, li_1, li_2, li_3, li_4, li_5, li_6, li_7, li_8, li_9, li_10, li_14, li_16, li_20, li_21, li_24, li_25, li_32, li_44, li_48, li_57, li_60, li_64, li_81, li_84, li_99, li_100, li_101, li_108, li_111, li_115, li_116, li_120, li_140, li_255, li_500, li_999, li_1000, li_1092, li_1176, li_10000, li_100000, li_1000000, li_N, li_M, nI_add, pk_mul, pk_sub, pk_div, pk_rem, k_mod, nI_clamp, nI_leI, nI_ltI, nI_eq, qin_nI, nI_m1, nN_lt, nN_lt2, nN_le, nN_le2, nN_eq, nN_eq2, qin_nN, Option.some.injEq, Prod.mk.injEq, Sum.inl.injEq, c_rp_1 hT hv (Or.inr hno), raise1]
      · unfold F8_saves B8_saves_23
        rw [m_isC_y kr_114 rm.2.1.1 (by omega) ha, m_isC_n kr_114 rm.2.1.1 (by omega) (by omega) hno]
        simp (disch := omega) only [if_pos, if_neg, ite_true, ite_false, not_true_eq_false, Bool.false_eq_true, not_false_eq_true, eq_self, obs, ob1, ob2, obx, opx, li_0, li_1, li_2, li_3, li_4, li_5, li_6, li_7, li_8, li_9, li_10, li_14, li_16, li_20, li_21, li_24, li_25, li_32, li_44, li_48, li_57, li_60, li_64, li_81, li_84, li_99, li_100, li_101, li_108, li_111, li_115, li_116, li_120, li_140, li_255, li_500, li_999, li_1000, li_1092, li_1176, li_10000, li_100000, li_1000000, li_N, li_M, nI_add, pk_mul, pk_sub, pk_div, pk_rem, k_mod, nI_clamp, nI_leI, nI_ltI, nI_eq, qin_nI, nI_m1, nN_lt, nN_lt2, nN_le, nN_le2, nN_eq, nN_eq2, qin_nN, Option.some.injEq, Prod.mk.injEq, Sum.inl.injEq]
        exact m_throw 1 (by omega) (by omega)
  · refine okc_e (k := 2) (w := 1) hR rm ok ?_ (fun S => by simp (disch := omega) only [if_pos, if_neg, ite_true, ite_false, not_true_eq_false, Bool.false_eq_true, not_false_eq_true, eq_self, obs, ob1, ob2, obx, opx, li_0, li_1, li_2, li_3, li_4, li_5, li_6, li_7, li_8, li_9, li_10, li_14, li_16, li_20, li_21, li_24, li_25, li_32, li_44, li_48, li_57, li_60, li_64, li_81, li_84, li_99, li_100, li_101, li_108, li_111, li_115, li_116, li_120, li_140, li_255, li_500, li_999, li_1000, li_1092, li_1176, li_10000, li_100000, li_1000000, li_N, li_M, nI_add, pk_mul, pk_sub, pk_div, pk_rem, k_mod, nI_clamp, nI_leI, nI_ltI, nI_eq, qin_nI, nI_m1, nN_lt, nN_lt2, nN_le, nN_le2, nN_eq, nN_eq2, qin_nN, Option.some.injEq, Prod.mk.injEq, Sum.inl.injEq]) (by omega) (by omega) (fun S rm => ?_)
    · unfold F7_saves
      simp (disch := omega) only [if_pos, if_neg, ite_true, ite_false, not_true_eq_false, Bool.false_eq_true, not_false_eq_true, eq_self, obs, ob1, ob2, obx, opx, li_0, li_1, li_2, li_3, li_4, li_5, li_6, li_7, li_8, li_9, li_10, li_14, li_16, li_20, li_21, li_24, li_25, li_32, li_44, li_48, li_57, li_60, li_64, li_81, li_84, li_99, li_100, li_101, li_108, li_111, li_115, li_116, li_120, li_140, li_255, li_500, li_999, li_1000, li_1092, li_1176, li_10000, li_100000, li_1000000, li_N, li_M, nI_add, pk_mul, pk_sub, pk_div, pk_rem, k_mod, nI_clamp, nI_leI, nI_ltI, nI_eq, qin_nI, nI_m1, nN_lt, nN_lt2, nN_le, nN_le2, nN_eq, nN_eq2, qin_nN, Option.some.injEq, Prod.mk.injEq, Sum.inl.injEq, c_rp_1 (y := y) hT hv (Or.inl hno), raise1]
    · unfold F8_saves B8_saves_23
      rw [m_isC_n kr_114 rm.2.1.1 (by omega) (by omega) hno]
      simp (disch := omega) only [if_pos, if_neg, ite_true, ite_false, not_true_eq_false, Bool.false_eq_true, not_false_eq_true, eq_self, obs, ob1, ob2, obx, opx, li_0, li_1, li_2, li_3, li_4, li_5, li_6, li_7, li_8, li_9, li_10, li_14, li_16, li_20, li_21, li_24, li_25, li_32, li_44, li_48, li_57, li_60, li_64, li_81, li_84, li_99, li_100, li_101, li_108, li_111, li_115, li_116, li_120, li_140, li_255, li_500, li_999, li_1000, li_1092, li_1176, li_10000, li_100000, li_1000000, li_N, li_M, nI_add, pk_mul, pk_sub, pk_div, pk_rem, k_mod, nI_clamp, nI_leI, nI_ltI, nI_eq, qin_nI, nI_m1, nN_lt, nN_lt2, nN_le, nN_le2, nN_eq, nN_eq2, qin_nN, Option.some.injEq, Prod.mk.injEq, Sum.inl.injEq]
      exact m_throw 1 (by omega) (by omega)
/-! UP TO -/
section QUP
variable {e e2 : Gr} {D D2 : Nat → Nat} {st go l l2 x0 y0 : Nat}
/-- one street becomes shorter -/
def shr (e e2 : Gr) (x0 y0 l l2 : Nat) : Prop := (∀ a b, ¬ ((a = x0 ∧ b = y0) ∨ (a = y0 ∧ b = x0)) → e2 a b = e a b) ∧ (∀ a b, ((a = x0 ∧ b = y0) ∨ (a = y0 ∧ b = x0)) → e a b = l ∧ e2 a b = l2) ∧ 0 < l2 ∧ l2 ≤ l
theorem shr_le (h : shr e e2 x0 y0 l l2) (a b : Nat) : e2 a b ≤ e a b ∧ (e a b ≠ 0 → e2 a b ≠ 0) ∧ (e2 a b ≠ 0 → e a b ≠ 0) := by
  by_cases q : (a = x0 ∧ b = y0) ∨ (a = y0 ∧ b = x0)
  · have := h.2.1 a b q
    have := h.2.2
    omega
  · rw [h.1 a b q]
    exact ⟨Nat.le_refl _, id, id⟩
theorem up_1 (h : shr e e2 x0 y0 l l2) (he2 : gOK e2) (hD : gD 100 e go D) (hD2 : gD 100 e2 go D2) : ∀ c, c < 9 → D2 c ≤ D c := by
  intro c hc
  refine gD_le he2 hD2 (d' := D) ⟨hD.1.1, hD.1.2.1, fun c hc hct => ?_⟩ _ c rfl hc
  rcases hD.1.2.2 c hc hct with q | ⟨b, hb, hle⟩
  · exact Or.inl q
  · have := shr_le h c b
    exact Or.inr ⟨b, this.2.1 hb, by omega⟩
theorem up_a (h : shr e e2 x0 y0 l l2) (he2 : gOK e2) (hD : gD 100 e go D) (hD2 : gD 100 e2 go D2) {x y : Nat} (hxy : (x = x0 ∧ y = y0) ∨ (x = y0 ∧ y = x0)) (hlt : D2 y < D2 x) : ∀ v c, D2 c = v → c < 9 → D2 c ≤ D2 y → D c ≤ D2 c := by
  intro v
  induction v using Nat.strongRecOn with
  | ind v ih =>
    intro c hv hc hle
    by_cases hct : c = go
    · rw [hct, hD.1.1]
      exact Nat.zero_le _
    · by_cases hU : D2 c = gU
      · rw [hU]
        exact hD.1.2.1 c hc
      · obtain ⟨w, hw, hDw⟩ := gD_succ hD2 hc hU hct
        have hw9 := (he2.2.2.2 c w hw).2
        have i1 := ih (D2 w) (by omega) w rfl hw9 (by omega)
        have q : ¬ ((c = x0 ∧ w = y0) ∨ (c = y0 ∧ w = x0)) := by
          intro z
          have : (c = x ∧ w = y) ∨ (c = y ∧ w = x) := by omega
          rcases this with ⟨rfl, rfl⟩ | ⟨rfl, rfl⟩ <;> omega
        have e3 := h.1 c w q
        have := hD.2 c w (by rw [← e3]; exact hw)
        rw [← e3] at this
        omega
theorem up_2 (h : shr e e2 x0 y0 l l2) (he2 : gOK e2) (hD : gD 100 e go D) (hD2 : gD 100 e2 go D2) : ∀ v c, D2 c = v → c < 9 → D c ≤ D2 c + 100 * (l - l2) := by
  intro v
  induction v using Nat.strongRecOn with
  | ind v ih =>
    intro c hv hc
    by_cases hct : c = go
    · rw [hct, hD.1.1]
      exact Nat.zero_le _
    · by_cases hU : D2 c = gU
      · rw [hU]
        have := hD.1.2.1 c hc
        omega
      · obtain ⟨w, hw, hDw⟩ := gD_succ hD2 hc hU hct
        have hw9 := (he2.2.2.2 c w hw).2
        have hw0 := (shr_le h c w).2.2 hw
        have h1 := hD.2 c w hw0
        by_cases q : (c = x0 ∧ w = y0) ∨ (c = y0 ∧ w = x0)
        · have h2 := up_a h he2 hD hD2 q (by omega) (D2 w) w rfl hw9 (Nat.le_refl _)
          have h3 := h.2.1 c w q
          have h4 := h.2.2
          omega
        · have i1 := ih (D2 w) (by omega) w rfl hw9
          have e3 := h.1 c w q
          omega
theorem up_way {p p2 : Nat → Nat} {k k2 : Nat} (h : shr e e2 x0 y0 l l2) (he : gOK e) (he2 : gOK e2) (hst : st < 9) (hD : gD 100 e go D) (hD2 : gD 100 e2 go D2) (hp : isBest e D st go p k) (hp2 : isBest e2 D2 st go p2 k2) (hu : uP p k x0 y0) : uP p2 k2 x0 y0 := by
  obtain ⟨i, hi, hh⟩ := hu
  rcases hp with ⟨-, h0⟩ | ⟨hU, m, rfl, hw⟩
  · omega
  have hinj : ∀ i j, i ≤ m → j ≤ m → p i = p j → i = j := fun i j hi hj h => way_inj hD hst hU he hw hi hj h
  have hp9 := way_9 he hst hw
  have le1 := up_1 h he2 hD hD2
  have le2 := fun c hc => up_2 h he2 hD hD2 (D2 c) c rfl hc
  have hl := h.2.2
  have hab : (p i = x0 ∧ p (i + 1) = y0) ∨ (p i = y0 ∧ p (i + 1) = x0) := hh
  have hcN := (hw.2.2 i (by omega)).2.1
  have hle := h.2.1 _ _ hab
  have s2 := hD2.2 (p i) (p (i + 1)) ((shr_le h _ _).2.1 hcN.1)
  have a1 := le1 (p (i + 1)) (hp9 (i + 1) (by omega))
  have a2 := le2 (p i) (hp9 i (by omega))
  have hca := hcN.2
  have P1 : D2 (p i) + 100 * (l - l2) = D (p i) := by omega
  have P1b : D2 (p (i + 1)) = D (p (i + 1)) := by omega
  have notab : ∀ j, j < i → ∀ z, ¬ ((p j = x0 ∧ z = y0) ∨ (p j = y0 ∧ z = x0)) := by
    intro j hj z hz
    have : p j = p i ∨ p j = p (i + 1) := by omega
    rcases this with q | q
    · have := hinj j i (by omega) (by omega) q
      omega
    · have := hinj j (i + 1) (by omega) (by omega) q
      omega
  have P2 : ∀ d, d ≤ i → D2 (p (i - d)) + 100 * (l - l2) = D (p (i - d)) := by
    intro d
    induction d with
    | zero => exact fun _ => P1
    | succ d ih =>
      intro hd
      have i1 := ih (by omega)
      have q := (hw.2.2 (i - (d + 1)) (by omega)).2.1
      rw [show i - (d + 1) + 1 = i - d by omega] at q
      have e3 := h.1 _ _ (notab (i - (d + 1)) (by omega) (p (i - d)))
      have s3 := hD2.2 (p (i - (d + 1))) (p (i - d)) (by rw [e3]; exact q.1)
      have s4 := le2 (p (i - (d + 1))) (hp9 _ (by omega))
      have := q.2
      rw [e3] at s3
      omega
  have P2' : ∀ j, j ≤ i → D2 (p j) + 100 * (l - l2) = D (p j) := fun j hj => by
    have := P2 (i - j) (by omega)
    rw [show i - (i - j) = j by omega] at this
    exact this
  have P3 : ∀ j, j ≤ i → isNx e2 D2 (p j) (p (j + 1)) := by
    intro j hj
    obtain ⟨⟨c1, c2⟩, c3⟩ := (hw.2.2 j (by omega)).2
    have keep : ∀ z, ¬ ((p j = x0 ∧ z = y0) ∨ (p j = y0 ∧ z = x0)) → cN e2 D2 (p j) z → cN e D (p j) z := by
      intro z hz ⟨g1, g2⟩
      have e3 := h.1 _ _ hz
      rw [e3] at g1 g2
      refine ⟨g1, ?_⟩
      have z9 := (he.2.2.2 _ _ g1).2
      have s5 := hD.2 _ _ g1
      have s6 := le2 z z9
      have := P2' j hj
      omega
    by_cases q : j = i
    · subst q
      refine ⟨⟨(shr_le h _ _).2.1 c1, by omega⟩, fun z hz hc => ?_⟩
      refine c3 z hz (keep z ?_ hc)
      omega
    · have hj2 : j < i := by omega
      have e3 := h.1 _ _ (notab j hj2 (p (j + 1)))
      refine ⟨⟨by rw [e3]; exact c1, ?_⟩, fun z hz hc => c3 z hz (keep z (notab j hj2 z) hc)⟩
      have g1 := P2' j hj
      have g2 := P2' (j + 1) (by omega)
      rw [e3]
      omega
  rcases hp2 with ⟨q, -⟩ | ⟨hU2, m2, rfl, hw2⟩
  · have g1 := le1 st hst
    have g2 := P2' 0 (by omega)
    rw [hw.1] at g2
    have g3 := hD.1.2.1 st hst
    omega
  have P4 : ∀ j, j ≤ i + 1 → j ≤ m2 ∧ p2 j = p j := by
    intro j
    induction j with
    | zero => exact fun _ => ⟨by omega, by rw [hw2.1, hw.1]⟩
    | succ j ih =>
      intro hj
      obtain ⟨g1, g2⟩ := ih (by omega)
      have g3 := (hw.2.2 j (by omega)).1
      have g4 : j ≠ m2 := fun z => by
        rw [z, hw2.2.1] at g2
        rw [z] at g3
        exact g3 g2.symm
      refine ⟨by omega, ?_⟩
      obtain ⟨u1, u2⟩ := (hw2.2.2 j (by omega)).2
      obtain ⟨w1, w2⟩ := P3 j (by omega)
      rw [g2] at u1 u2
      have n1 : ¬ p2 (j + 1) < p (j + 1) := fun z => w2 _ z u1
      have n2 : ¬ p (j + 1) < p2 (j + 1) := fun z => u2 _ z w1
      omega
  refine ⟨i, by have := (P4 (i + 1) (by omega)).1; omega, ?_⟩
  rw [(P4 i (by omega)).2, (P4 (i + 1) (by omega)).2]
  exact hh
end QUP
