theorem bits4 : ∀ b, b < 9 → (1 <<< (nI b &&& 31) : Int32) = nI (0 ||| 2 ^ b) := by decide +kernel
theorem m_on_init {S0 : qSt} {n st : Nat} {lim : Int32} (h114 : S0 114 2 = nI st) (hst : st < 9) : ∀ j c f S, c + j = 9 → j < f → kp [125] S0 S → (∀ x, x < c → S 125 x = nI (if x = st then 1 else 0)) → ∃ S2, B8_ways_39 n f lim (nI c) S = B8_ways_72 n lim S2 ∧ kp [125] S0 S2 ∧ ∀ x, x < 9 → S2 125 x = nI (if x = st then 1 else 0) := by
  intro j
  induction j with
  | zero =>
    intro c f S hs hf hk hW
    obtain ⟨g, rfl, hg⟩ := fuel_s hf
    refine ⟨S, ?_, hk, fun x hx => hW x (by omega)⟩
    rw [B8_ways_39]
    simp (disch := omega) only [if_pos, if_neg, ite_true, ite_false, not_true_eq_false, Bool.false_eq_true, not_false_eq_true, eq_self, obs, ob1, ob2, obx, opx, li_0, li_1, li_2, li_3, li_4, li_5, li_6, li_7, li_8, li_9, li_10, li_14, li_16, li_20, li_21, li_24, li_25, li_32, li_44, li_48, li_57, li_60, li_64, li_81, li_84, li_99, li_100, li_101, li_108, li_111, li_115, li_116, li_120, li_140, li_255, li_500, li_999, li_1000, li_1092, li_1176, li_10000, li_100000, li_1000000, li_N, li_M, nI_add, pk_mul, pk_sub, pk_div, pk_rem, k_mod, nI_clamp, nI_leI, nI_ltI, nI_eq, qin_nI, nI_m1, nN_lt, nN_lt2, nN_le, nN_le2, nN_eq, nN_eq2, qin_nN, Option.some.injEq, Prod.mk.injEq, Sum.inl.injEq]
  | succ j ih =>
    intro c f S hs hf hk hW
    obtain ⟨g, rfl, hg⟩ := fuel_s hf
    have e114 : S 114 2 = nI st := by
      rw [hk 114 (by decide)]
      exact h114
    obtain ⟨S2, e1, e2⟩ := ih (c + 1) g (qup S 125 c (nI (if c = st then 1 else 0))) (by omega) (by omega) (kp_up hk (by simp)) (fun x hx => by
      by_cases q : x = c
      · subst q
        rw [qup_s]
      · rw [qup_k _ _ _ q]
        exact hW x (by omega))
    refine ⟨S2, ?_, e2⟩
    rw [← e1, B8_ways_39]
    unfold B8_ways_65
    by_cases q : c = st
    · rw [if_pos q, show ((1 : Int32) &&& 1) = nI 1 from rfl]
      simp (disch := omega) only [if_pos, if_neg, ite_true, ite_false, not_true_eq_false, Bool.false_eq_true, not_false_eq_true, eq_self, obs, ob1, ob2, obx, opx, li_0, li_1, li_2, li_3, li_4, li_5, li_6, li_7, li_8, li_9, li_10, li_14, li_16, li_20, li_21, li_24, li_25, li_32, li_44, li_48, li_57, li_60, li_64, li_81, li_84, li_99, li_100, li_101, li_108, li_111, li_115, li_116, li_120, li_140, li_255, li_500, li_999, li_1000, li_1092, li_1176, li_10000, li_100000, li_1000000, li_N, li_M, nI_add, pk_mul, pk_sub, pk_div, pk_rem, k_mod, nI_clamp, nI_leI, nI_ltI, nI_eq, qin_nI, nI_m1, nN_lt, nN_lt2, nN_le, nN_le2, nN_eq, nN_eq2, qin_nN, Option.some.injEq, Prod.mk.injEq, Sum.inl.injEq, e114]
    · rw [if_neg q, show ((0 : Int32) &&& 1) = nI 0 from rfl]
      simp (disch := omega) only [if_pos, if_neg, ite_true, ite_false, not_true_eq_false, Bool.false_eq_true, not_false_eq_true, eq_self, obs, ob1, ob2, obx, opx, li_0, li_1, li_2, li_3, li_4, li_5, li_6, li_7, li_8, li_9, li_10, li_14, li_16, li_20, li_21, li_24, li_25, li_32, li_44, li_48, li_57, li_60, li_64, li_81, li_84, li_99, li_100, li_101, li_108, li_111, li_115, li_116, li_120, li_140, li_255, li_500, li_999, li_1000, li_1092, li_1176, li_10000, li_100000, li_1000000, li_N, li_M, nI_add, pk_mul, pk_sub, pk_div, pk_rem, k_mod, nI_clamp, nI_leI, nI_ltI, nI_eq, qin_nI, nI_m1, nN_lt, nN_lt2, nN_le, nN_le2, nN_eq, nN_eq2, qin_nN, Option.some.injEq, Prod.mk.injEq, Sum.inl.injEq, e114]
theorem mB8 : mB 8 = 111111110 := by decide +kernel
theorem k_ways {S : qSt} {n : Nat} (h : Rel S) (hn : 10000000000 ≤ n) (x : Int32) : okc (CC (FL_ways n x S) (F8_ways n x)) := by
  obtain ⟨L, c, T, hc, H, F, K, hR, rm, ok⟩ := h
  have hv := ok.2.2.1
  have h9 := hv.2.1
  have hst := hv.2.2.2.1
  have hgo := hv.2.2.2.2.1
  have hsg := hv.2.2.2.2.2.1
  have hT := hR.2.1
  unfold FL_ways
  rcases ix x 1000 (by omega) with ⟨lim, hl, rfl⟩ | ⟨hno, hb⟩
  · obtain ⟨e, hG⟩ := isG_ex T 9999 hv
    have he := isG_ok hv hG
    refine okc_q (r := nI (min 500 (0 + wN e (T 0 3) 8 (T 0 2) lim (0 ||| 2 ^ T 0 2)))) rm ⟨S, ?_, hR, kC_rfl⟩ (fun S rm => ?_) ok
    · have main := c_ways_rec (n := n) (S := S) hT hv hG (by omega) 8 1 10 (0 ||| 2 ^ T 0 2) (T 0 2) lim 0 (by omega) (by omega) (by omega) (by omega) (bits3 (T 0 2) (by omega)).1 (by omega) (by omega)
      unfold F7_ways
      rw [hT.2.2.1, bits4 (T 0 2) (by omega)]
      simp (disch := omega) only [if_pos, if_neg, ite_true, ite_false, not_true_eq_false, Bool.false_eq_true, not_false_eq_true, eq_self, obs, ob1, ob2, obx, opx, li_0, li_1, li_2, li_3, li_4, li_5, li_6, li_7, li_8, li_9, li_10, li_14, li_16, li_20, li_21, li_24, li_25, li_32, li_44, li_48, li_57, li_60, li_64, li_81, li_84, li_99, li_100, li_101, li_108, li_111, li_115, li_116, li_120, li_140, li_255, li_500, li_999, li_1000, li_1092, li_1176, li_10000, li_100000, li_1000000, li_N, li_M, nI_add, pk_mul, pk_sub, pk_div, pk_rem, k_mod, nI_clamp, nI_leI, nI_ltI, nI_eq, qin_nI, nI_m1, nN_lt, nN_lt2, nN_le, nN_le2, nN_eq, nN_eq2, qin_nN, Option.some.injEq, Prod.mk.injEq, Sum.inl.injEq, main]
    · obtain ⟨r1, r2, r3, r4⟩ := rq rm 0
      obtain ⟨S1, e1, k1', c1⟩ := m_lc (n := n) (but := 9999) kr_114 (by omega) r4 hv hG (by omega)
      rw [bI_N] at e1
      have t1 := isM_kp r4 k1' (by decide)
      have q2 : S1 114 2 = nI (T 0 2) := t1.2.2.1
      have q3 : S1 114 3 = nI (T 0 3) := t1.2.2.2.1
      obtain ⟨S2, e2, k2, o2⟩ := m_on_init (n := n) (lim := nI lim) (S0 := S1) q2 (by omega) 9 0 n S1 (by omega) (by omega) kp_rfl (fun x hx => by omega)
      have hC2 : isC (qup (qup (qup S2 122 0 (nI (T 0 2))) 123 0 (nI 0)) 124 0 (nI 0)) e := fun a b ha hb => by
        rw [qup_o _ _ _ (by omega), qup_o _ _ _ (by omega), qup_o _ _ _ (by omega), k2 120 (by decide)]
        exact c1 a b ha hb
      have h114 : (qup (qup (qup S2 122 0 (nI (T 0 2))) 123 0 (nI 0)) 124 0 (nI 0)) 114 = S1 114 := by
        rw [qup_o _ _ _ (by omega), qup_o _ _ _ (by omega), qup_o _ _ _ (by omega), k2 114 (by decide)]
      obtain ⟨b1, b2, b3⟩ := bits3 (T 0 2) (by omega)
      obtain ⟨m, S3, hm, k3, -, h⟩ := m_ways (n := n) (lim := lim) (go := T 0 3) (e := e) he hC2 (by rw [h114]; exact q3) (by omega) (by omega) 8 9 0 (T 0 2) 0 0 0 0 _ (by omega) (by omega) (by omega) hsg (by omega) (b3 _ (by omega)) (b3 _ (by omega)) b2 kp_rfl (fun x hx => by
        rw [qup_o _ _ _ (by omega), qup_o _ _ _ (by omega), qup_o _ _ _ (by omega), o2 x hx, bit_or, b3 x hx]
        by_cases z : x = T 0 2
        · simp [z]
        · have : ¬ T 0 2 = x := fun w => z w.symm
          simp [z, this]) (by
        rw [qup_o _ _ _ (by omega), qup_o _ _ _ (by omega), qup_s]) (by
        rw [qup_o _ _ _ (by omega), qup_s]) (qup_s ..) (by omega) (by omega)
      rw [mB8] at hm
      have kk : kp [120, 122, 123, 124, 125] (qup S 111 0 (nI 0)) S3 := kp_tr (R := [120, 122, 123, 124, 125]) (kp_up (kp_up (kp_up (kp_tr (R := [120, 122, 123, 124, 125]) k1' k2 (by simp) (by simp)) (by simp)) (by simp)) (by simp)) k3 (fun _ h => h) (by simp)
      have g1 : RM S3 L c T hc H F K := RM_kp r1 (Q := []) kk (k1_kp kk (by decide)) (by simp) (by decide) (by decide)
      have wv : wN e (T 0 3) 8 (T 0 2) lim (0 ||| 2 ^ T 0 2) = sm (gW e (T 0 3) 7 (T 0 2) lim (0 ||| 2 ^ T 0 2)) 9 0 := wN_s hsg
      rw [show 8 - 1 = 7 from rfl, Nat.sub_zero, ← wv] at h
      have hin : F8_in (nI lim).toInt64 0 999 S = nI 1 := by
        rw [l64_0, l64_999]
        exact in_y S (by omega) (by omega) (by omega)
      have e0 : S2 114 2 = nI (T 0 2) := by
        rw [k2 114 (by decide)]
        exact q2
      have start : F8_ways n (nI lim) S = B8_ways_102 n n (nI lim) (nI 0) (nI 0) (qup (qup (qup S2 122 0 (nI (T 0 2))) 123 0 (nI 0)) 124 0 (nI 0)) := by
        unfold F8_ways B8_ways_18
        simp (disch := omega) only [if_pos, if_neg, ite_true, ite_false, not_true_eq_false, Bool.false_eq_true, not_false_eq_true, eq_self, obs, ob1, ob2, obx, opx, li_0, li_1, li_2, li_3, li_4, li_5, li_6, li_7, li_8, li_9, li_10, li_14, li_16, li_20, li_21, li_24, li_25, li_32, li_44, li_48, li_57, li_60, li_64, li_81, li_84, li_99, li_100, li_101, li_108, li_111, li_115, li_116, li_120, li_140, li_255, li_500, li_999, li_1000, li_1092, li_1176, li_10000, li_100000, li_1000000, li_N, li_M, nI_add, pk_mul, pk_sub, pk_div, pk_rem, k_mod, nI_clamp, nI_leI, nI_ltI, nI_eq, qin_nI, nI_m1, nN_lt, nN_lt2, nN_le, nN_le2, nN_eq, nN_eq2, qin_nN, Option.some.injEq, Prod.mk.injEq, Sum.inl.injEq, hin, m_ref_0, e1]
        rw [e2]
        unfold B8_ways_72
        simp (disch := omega) only [if_pos, if_neg, ite_true, ite_false, not_true_eq_false, Bool.false_eq_true, not_false_eq_true, eq_self, obs, ob1, ob2, obx, opx, li_0, li_1, li_2, li_3, li_4, li_5, li_6, li_7, li_8, li_9, li_10, li_14, li_16, li_20, li_21, li_24, li_25, li_32, li_44, li_48, li_57, li_60, li_64, li_81, li_84, li_99, li_100, li_101, li_108, li_111, li_115, li_116, li_120, li_140, li_255, li_500, li_999, li_1000, li_1092, li_1176, li_10000, li_100000, li_1000000, li_N, li_M, nI_add, pk_mul, pk_sub, pk_div, pk_rem, k_mod, nI_clamp, nI_leI, nI_ltI, nI_eq, qin_nI, nI_m1, nN_lt, nN_lt2, nN_le, nN_le2, nN_eq, nN_eq2, qin_nN, Option.some.injEq, Prod.mk.injEq, Sum.inl.injEq, e0]
      refine ⟨S3, ?_, g1, kM_tr r2 (kM_kp kk (by simp)), by rw [kk 111 (by decide)]; exact r3⟩
      rw [start]
      rcases h with ⟨i1, i2⟩ | ⟨i1, -, i3⟩
      · have := i2 (n - m)
        rw [show n - m + m = n by omega] at this
        rw [this, Nat.min_eq_left i1]
      · have := i3 (n - m)
        rw [show n - m + m = n by omega] at this
        obtain ⟨g, hg⟩ : ∃ g, n - m = g + 1 := ⟨n - m - 1, by omega⟩
        rw [this, hg, B8_ways_102, if_pos (by decide +kernel), Nat.min_eq_right (by omega)]
  · refine okc_e (k := 0) (w := 1) hR rm ok ?_ (fun S => by simp (disch := omega) only [if_pos, if_neg, ite_true, ite_false, not_true_eq_false, Bool.false_eq_true, not_false_eq_true, eq_self, obs, ob1, ob2, obx, opx, li_0, li_1, li_2, li_3, li_4, li_5, li_6, li_7, li_8, li_9, li_10, li_14, li_16, li_20, li_21, li_24, li_25, li_32, li_44, li_48, li_57, li_60, li_64, li_81, li_84, li_99, li_100, li_101, li_108, li_111, li_115, li_116, li_120, li_140, li_255, li_500, li_999, li_1000, li_1092, li_1176, li_10000, li_100000, li_1000000, li_N, li_M, nI_add, pk_mul, pk_sub, pk_div, pk_rem, k_mod, nI_clamp, nI_leI, nI_ltI, nI_eq, qin_nI, nI_m1, nN_lt, nN_lt2, nN_le, nN_le2, nN_eq, nN_eq2, qin_nN, Option.some.injEq, Prod.mk.injEq, Sum.inl.injEq]) (by omega) (by omega) (fun S rm => ?_)
    · unfold F7_ways B7_ways_11
      by_cases hx : x < 0
      · rw [if_pos hx]
      · have : ¬ x ≤ 999 := by
          rcases hb with hb | hb
          · exact absurd hb hx
          · rw [Int32.le_iff_toInt_le] at hb ⊢
            have e1 := nI_toInt (n := 1000) (by omega)
            have e2 : (999 : Int32).toInt = 999 := rfl
            omega
        rw [if_neg hx, if_neg this]
    · have hin : F8_in x.toInt64 0 999 S = nI 0 := by
        rw [l64_0, l64_999]
        exact in_n S (fun j _ h => hno j (by omega)) (by omega) (by omega)
      unfold F8_ways
      simp (disch := omega) only [if_pos, if_neg, ite_true, ite_false, not_true_eq_false, Bool.false_eq_true, not_false_eq_true, eq_self, obs, ob1, ob2, obx, opx, li_0, li_1, li_2, li_3, li_4, li_5, li_6, li_7, li_8, li_9, li_10, li_14, li_16, li_20, li_21, li_24, li_25, li_32, li_44, li_48, li_57, li_60, li_64, li_81, li_84, li_99, li_100, li_101, li_108, li_111, li_115, li_116, li_120, li_140, li_255, li_500, li_999, li_1000, li_1092, li_1176, li_10000, li_100000, li_1000000, li_N, li_M, nI_add, pk_mul, pk_sub, pk_div, pk_rem, k_mod, nI_clamp, nI_leI, nI_ltI, nI_eq, qin_nI, nI_m1, nN_lt, nN_lt2, nN_le, nN_le2, nN_eq, nN_eq2, qin_nN, Option.some.injEq, Prod.mk.injEq, Sum.inl.injEq, hin]
      exact m_throw 1 (by omega) (by omega)
