/-! THE MODEL'S WAY -/
def isRM (S : qSt) (p : Nat → Nat) (k : Nat) : Prop := S 111 15 = nI k ∧ ∀ i, i < k → S 122 i = nI (p i)
/-- slots of the model itself that stay -/
def k1 (Q : List Nat) (S S2 : qSt) : Prop := ∀ i, i ∉ Q → S2 111 i = S 111 i
theorem k1_rfl {Q : List Nat} {S : qSt} : k1 Q S S := fun _ _ => rfl
theorem k1_kp {P Q : List Nat} {S S2 : qSt} (h : kp P S S2) (hP : 111 ∉ P) : k1 Q S S2 := fun i _ => by rw [h 111 hP]
theorem k1_tr {P Q R : List Nat} {S S2 S3 : qSt} (h : k1 P S S2) (h2 : k1 Q S2 S3) (hP : ∀ x ∈ P, x ∈ R) (hQ : ∀ x ∈ Q, x ∈ R) : k1 R S S3 := fun o ho => (h2 o (fun q => ho (hQ o q))).trans (h o (fun q => ho (hP o q)))
theorem k1_up {Q : List Nat} {S S2 : qSt} {i : Nat} {v : Int32} (h : k1 Q S S2) (hi : i ∈ Q) : k1 Q S (qup S2 111 i v) := fun x hx => by
  have hxi : x ≠ i := fun q => hx (by rw [q]; exact hi)
  rw [qup_k _ _ _ hxi]
  exact h x hx
theorem k1_uo {Q : List Nat} {S S2 : qSt} {o i : Nat} {v : Int32} (h : k1 Q S S2) (ho : o ≠ 111) : k1 Q S (qup S2 o i v) := fun x hx => by
  rw [qup_o _ _ _ (fun q => ho q.symm)]
  exact h x hx
theorem m_lw_next {S : qSt} {n m x y : Nat} {e : Gr} {D : Nat → Nat} {K : Int32 → Int32 → qSt → Option (Int32 × qSt)} {v3 : Int32} (he : gOK e) (hC : isC S e) (hW : isW S 121 D) (hDU : ∀ c, c < 9 → D c ≤ gU) (hx : x < 9) (hy : isNx e D x y) : ∀ j z f, z + j = y → j < f → B8_layWay_48 n m K f v3 (nI x) (nI z) S = B8_layWay_101 n m K v3 (nI y) S := by
  have hU : gU = 1000000 := rfl
  have hy9 := (he.2.2.2 x y hy.1.1).2
  have cell : ∀ z, z < 9 → S 120 (9 * x + z) = nI (cst (e x z)) ∧ S 121 z = nI (D z) := fun z hz => ⟨hC x z hx hz, hW z hz⟩
  intro j
  induction j with
  | zero =>
    intro z f hs hf
    obtain ⟨g, rfl, hg⟩ := fuel_s hf
    have hz : z = y := by omega
    subst hz
    obtain ⟨a1, a2⟩ := cell z hy9
    have e99 := he.2.2.1 x z
    have uz := hDU z hy9
    have ux := hDU x hx
    have ce : cst (e x z) = 100 * e x z + 1 := if_neg hy.1.1
    rw [ce] at a1
    have := hy.1.2
    rw [B8_layWay_48]
    simp (disch := omega) only [if_pos, if_neg, ite_true, ite_false, not_true_eq_false, Bool.false_eq_true, not_false_eq_true, eq_self, obs, ob1, ob2, obx, opx, li_0, li_1, li_2, li_3, li_4, li_5, li_6, li_7, li_8, li_9, li_10, li_14, li_16, li_20, li_21, li_24, li_25, li_32, li_44, li_48, li_57, li_60, li_64, li_81, li_84, li_99, li_100, li_101, li_108, li_111, li_115, li_116, li_120, li_140, li_255, li_500, li_999, li_1000, li_1092, li_1176, li_10000, li_100000, li_1000000, li_N, li_M, nI_add, pk_mul, pk_sub, pk_div, pk_rem, k_mod, nI_clamp, nI_leI, nI_ltI, nI_eq, qin_nI, nI_m1, nN_lt, nN_lt2, nN_le, nN_le2, nN_eq, nN_eq2, qin_nN, Option.some.injEq, Prod.mk.injEq, Sum.inl.injEq, a1, a2, hW x hx]
  | succ j ih =>
    intro z f hs hf
    obtain ⟨g, rfl, hg⟩ := fuel_s hf
    obtain ⟨a1, a2⟩ := cell z (by omega)
    have e99 := he.2.2.1 x z
    have uz := hDU z (by omega)
    have ux := hDU x hx
    have hno := hy.2 z (by omega)
    have i1 := ih (z + 1) g (by omega) (by omega)
    by_cases q : e x z = 0
    · rw [q, show cst 0 = 0 from rfl] at a1
      rw [B8_layWay_48]
      simp (disch := omega) only [if_pos, if_neg, ite_true, ite_false, not_true_eq_false, Bool.false_eq_true, not_false_eq_true, eq_self, obs, ob1, ob2, obx, opx, li_0, li_1, li_2, li_3, li_4, li_5, li_6, li_7, li_8, li_9, li_10, li_14, li_16, li_20, li_21, li_24, li_25, li_32, li_44, li_48, li_57, li_60, li_64, li_81, li_84, li_99, li_100, li_101, li_108, li_111, li_115, li_116, li_120, li_140, li_255, li_500, li_999, li_1000, li_1092, li_1176, li_10000, li_100000, li_1000000, li_N, li_M, nI_add, pk_mul, pk_sub, pk_div, pk_rem, k_mod, nI_clamp, nI_leI, nI_ltI, nI_eq, qin_nI, nI_m1, nN_lt, nN_lt2, nN_le, nN_le2, nN_eq, nN_eq2, qin_nN, Option.some.injEq, Prod.mk.injEq, Sum.inl.injEq, a1, B8_layWay_95]
      exact i1
    · have ce : cst (e x z) = 100 * e x z + 1 := if_neg q
      rw [ce] at a1
      have q2 : ¬ 100 * e x z + 1 + D z = D x := fun h => hno ⟨q, h⟩
      rw [B8_layWay_48]
      simp (disch := omega) only [if_pos, if_neg, ite_true, ite_false, not_true_eq_false, Bool.false_eq_true, not_false_eq_true, eq_self, obs, ob1, ob2, obx, opx, li_0, li_1, li_2, li_3, li_4, li_5, li_6, li_7, li_8, li_9, li_10, li_14, li_16, li_20, li_21, li_24, li_25, li_32, li_44, li_48, li_57, li_60, li_64, li_81, li_84, li_99, li_100, li_101, li_108, li_111, li_115, li_116, li_120, li_140, li_255, li_500, li_999, li_1000, li_1092, li_1176, li_10000, li_100000, li_1000000, li_N, li_M, nI_add, pk_mul, pk_sub, pk_div, pk_rem, k_mod, nI_clamp, nI_leI, nI_ltI, nI_eq, qin_nI, nI_m1, nN_lt, nN_lt2, nN_le, nN_le2, nN_eq, nN_eq2, qin_nN, Option.some.injEq, Prod.mk.injEq, Sum.inl.injEq, a1, a2, hW x hx, B8_layWay_95]
      exact i1
theorem m_lw_loop {S0 : qSt} {n m km st go : Nat} {e : Gr} {D : Nat → Nat} {p : Nat → Nat} {v3 : Int32} (hk : (kd m).2 = 84) (hm2 : m ≠ 111 ∧ m ≠ 122) (hgo : S0 m 3 = nI go) (he : gOK e) (hC : isC S0 e) (hW : isW S0 121 D) (hst : st < 9) (hg9 : go < 9) (hD : gD 100 e go D) (hU : D st ≠ gU) (hp : isWay e D st go p km) (hn : 100 ≤ n) : ∀ j x f S, x + j = km → j < f → kp [111, 122] S0 S → k1 [15] S0 S → isRM S p (x + 1) → ∃ S2, B8_layWay_37 n m f v3 (nI (p x)) S = some (v3, S2) ∧ kp [111, 122] S0 S2 ∧ k1 [15] S0 S2 ∧ isRM S2 p (km + 1) := by
  have hm := way_m hD hst hU he hp
  have hp9 := way_9 he hst hp
  intro j
  induction j with
  | zero =>
    intro x f S hs hf hkp hk1 hR
    obtain ⟨g, rfl, hg⟩ := fuel_s hf
    have em : S m = S0 m := hkp m (by simp only [List.mem_cons, List.not_mem_nil, or_false]; omega)
    have hx : p x = go := by rw [show x = km by omega]; exact hp.2.1
    refine ⟨S, ?_, hkp, hk1, by rw [show km = x by omega]; exact hR⟩
    rw [B8_layWay_37]
    simp (disch := omega) only [if_pos, if_neg, ite_true, ite_false, not_true_eq_false, Bool.false_eq_true, not_false_eq_true, eq_self, obs, ob1, ob2, obx, opx, li_0, li_1, li_2, li_3, li_4, li_5, li_6, li_7, li_8, li_9, li_10, li_14, li_16, li_20, li_21, li_24, li_25, li_32, li_44, li_48, li_57, li_60, li_64, li_81, li_84, li_99, li_100, li_101, li_108, li_111, li_115, li_116, li_120, li_140, li_255, li_500, li_999, li_1000, li_1092, li_1176, li_10000, li_100000, li_1000000, li_N, li_M, nI_add, pk_mul, pk_sub, pk_div, pk_rem, k_mod, nI_clamp, nI_leI, nI_ltI, nI_eq, qin_nI, nI_m1, nN_lt, nN_lt2, nN_le, nN_le2, nN_eq, nN_eq2, qin_nN, Option.some.injEq, Prod.mk.injEq, Sum.inl.injEq, hk, em, hgo, hx]
  | succ j ih =>
    intro x f S hs hf hkp hk1 hR
    obtain ⟨g, rfl, hg⟩ := fuel_s hf
    have em : S m = S0 m := hkp m (by simp only [List.mem_cons, List.not_mem_nil, or_false]; omega)
    have hx9 := hp9 x (by omega)
    have hy9 := hp9 (x + 1) (by omega)
    have hxg := (hp.2.2 x (by omega)).1
    have hC2 : isC S e := fun a b ha hb => by
      rw [hkp 120 (by decide)]
      exact hC a b ha hb
    have hW2 : isW S 121 D := fun c hc => by
      rw [hkp 121 (by decide)]
      exact hW c hc
    have nx := m_lw_next (n := n) (m := m) (K := B8_layWay_37 n m g) (v3 := v3) he hC2 hW2 (fun c hc => hD.1.2.1 c hc) hx9 (hp.2.2 x (by omega)).2 (p (x + 1)) 0 n (by omega) (by omega)
    obtain ⟨S2, f1, f2⟩ := ih (x + 1) g (qup (qup S 122 (x + 1) (nI (p (x + 1)))) 111 15 (nI (x + 1 + 1))) (by omega) (by omega) (kp_up (kp_up hkp (by simp)) (by simp)) (k1_up (k1_uo hk1 (by omega)) (by simp)) ⟨qup_s .., fun i hi => by
      rw [qup_o _ _ _ (by omega)]
      by_cases q : i = x + 1
      · subst q
        rw [qup_s]
      · rw [qup_k _ _ _ q]
        exact hR.2 i (by omega)⟩
    refine ⟨S2, ?_, f2⟩
    rw [B8_layWay_37]
    simp (disch := omega) only [if_pos, if_neg, ite_true, ite_false, not_true_eq_false, Bool.false_eq_true, not_false_eq_true, eq_self, obs, ob1, ob2, obx, opx, li_0, li_1, li_2, li_3, li_4, li_5, li_6, li_7, li_8, li_9, li_10, li_14, li_16, li_20, li_21, li_24, li_25, li_32, li_44, li_48, li_57, li_60, li_64, li_81, li_84, li_99, li_100, li_101, li_108, li_111, li_115, li_116, li_120, li_140, li_255, li_500, li_999, li_1000, li_1092, li_1176, li_10000, li_100000, li_1000000, li_N, li_M, nI_add, pk_mul, pk_sub, pk_div, pk_rem, k_mod, nI_clamp, nI_leI, nI_ltI, nI_eq, qin_nI, nI_m1, nN_lt, nN_lt2, nN_le, nN_le2, nN_eq, nN_eq2, qin_nN, Option.some.injEq, Prod.mk.injEq, Sum.inl.injEq, hk, em, hgo]
    rw [nx]
    unfold B8_layWay_101
    simp (disch := omega) only [if_pos, if_neg, ite_true, ite_false, not_true_eq_false, Bool.false_eq_true, not_false_eq_true, eq_self, obs, ob1, ob2, obx, opx, li_0, li_1, li_2, li_3, li_4, li_5, li_6, li_7, li_8, li_9, li_10, li_14, li_16, li_20, li_21, li_24, li_25, li_32, li_44, li_48, li_57, li_60, li_64, li_81, li_84, li_99, li_100, li_101, li_108, li_111, li_115, li_116, li_120, li_140, li_255, li_500, li_999, li_1000, li_1092, li_1176, li_10000, li_100000, li_1000000, li_N, li_M, nI_add, pk_mul, pk_sub, pk_div, pk_rem, k_mod, nI_clamp, nI_leI, nI_ltI, nI_eq, qin_nI, nI_m1, nN_lt, nN_lt2, nN_le, nN_le2, nN_eq, nN_eq2, qin_nN, Option.some.injEq, Prod.mk.injEq, Sum.inl.injEq, hR.1, qup_o]
    exact f1
theorem m_lw {S : qSt} {n m but kk : Nat} {T : Tn} {e : Gr} {D : Nat → Nat} {p : Nat → Nat} (hk : (kd m).2 = 84) (hm : m ≠ 120 ∧ m ≠ 121 ∧ m ≠ 111 ∧ m ≠ 122) (hT : isM S m 0 T) (hv : vT T) (hG : isG e T but) (hD : gD 100 e (T 0 3) D) (hp : isBest e D (T 0 2) (T 0 3) p kk) (hn : 100000000 ≤ n) : ∃ S2, F8_layWay n m (bI but) S = some (lenI (D (T 0 2)), S2) ∧ kp [111, 120, 121, 122] S S2 ∧ k1 [15] S S2 ∧ isRM S2 p kk ∧ isC S2 e ∧ isW S2 121 D := by
  have he := isG_ok hv hG
  have h9 := hv.2.1
  have h2 := hv.2.2.2.1
  have h3 := hv.2.2.2.2.1
  obtain ⟨t0, t1, t2, t3, ts⟩ := id hT
  simp only [Nat.zero_add] at t1 t2 t3
  obtain ⟨S1, e1, b1, w1, c1⟩ := m_bb (n := n) hk ⟨hm.1, hm.2.1⟩ hT hv hG hD hn
  have em : S1 m = S m := b1 m (by simp only [List.mem_cons, List.not_mem_nil, or_false]; omega)
  have hU : gU = 1000000 := rfl
  have hDU := hD.1.2.1 (T 0 2) (by omega)
  rcases hp with ⟨q1, rfl⟩ | ⟨q1, km, rfl, hw⟩
  · refine ⟨qup S1 111 15 (nI 0), ?_, kp_up (kp_mono b1 (by simp)) (by simp), k1_up (k1_kp b1 (by decide)) (by simp), ⟨qup_s .., fun i hi => by omega⟩, fun a b ha hb => ?_, fun c hc => ?_⟩
    · unfold F8_layWay
      simp (disch := omega) only [if_pos, if_neg, ite_true, ite_false, not_true_eq_false, Bool.false_eq_true, not_false_eq_true, eq_self, obs, ob1, ob2, obx, opx, li_0, li_1, li_2, li_3, li_4, li_5, li_6, li_7, li_8, li_9, li_10, li_14, li_16, li_20, li_21, li_24, li_25, li_32, li_44, li_48, li_57, li_60, li_64, li_81, li_84, li_99, li_100, li_101, li_108, li_111, li_115, li_116, li_120, li_140, li_255, li_500, li_999, li_1000, li_1092, li_1176, li_10000, li_100000, li_1000000, li_N, li_M, nI_add, pk_mul, pk_sub, pk_div, pk_rem, k_mod, nI_clamp, nI_leI, nI_ltI, nI_eq, qin_nI, nI_m1, nN_lt, nN_lt2, nN_le, nN_le2, nN_eq, nN_eq2, qin_nN, Option.some.injEq, Prod.mk.injEq, Sum.inl.injEq, e1]
      unfold lenI
      rw [if_pos q1]
      simp (disch := omega) only [if_pos, if_neg, ite_true, ite_false, not_true_eq_false, Bool.false_eq_true, not_false_eq_true, eq_self, obs, ob1, ob2, obx, opx, li_0, li_1, li_2, li_3, li_4, li_5, li_6, li_7, li_8, li_9, li_10, li_14, li_16, li_20, li_21, li_24, li_25, li_32, li_44, li_48, li_57, li_60, li_64, li_81, li_84, li_99, li_100, li_101, li_108, li_111, li_115, li_116, li_120, li_140, li_255, li_500, li_999, li_1000, li_1092, li_1176, li_10000, li_100000, li_1000000, li_N, li_M, nI_add, pk_mul, pk_sub, pk_div, pk_rem, k_mod, nI_clamp, nI_leI, nI_ltI, nI_eq, qin_nI, nI_m1, nN_lt, nN_lt2, nN_le, nN_le2, nN_eq, nN_eq2, qin_nN, Option.some.injEq, Prod.mk.injEq, Sum.inl.injEq]
    · rw [qup_o _ _ _ (by omega)]
      exact c1 a b ha hb
    · rw [qup_o _ _ _ (by omega)]
      exact w1 c hc
  · have hl : lenI (D (T 0 2)) ≠ nN := by
      unfold lenI
      rw [if_neg q1]
      exact fun z => nN_ne (by omega) z
    obtain ⟨S2, f1, f2, f3, f4⟩ := m_lw_loop (n := n) (S0 := S1) (v3 := lenI (D (T 0 2))) hk ⟨hm.2.2.1, hm.2.2.2⟩ (by rw [em]; exact t3) he c1 w1 (by omega) (by omega) hD q1 hw (by omega) km 0 n (qup (qup (qup S1 111 15 (nI 0)) 122 0 (nI (p 0))) 111 15 (nI 1)) (by omega) (by have := way_m hD (by omega) q1 he hw; omega) (kp_up (kp_up (kp_up kp_rfl (by simp)) (by simp)) (by simp)) (k1_up (k1_uo (k1_up k1_rfl (by simp)) (by omega)) (by simp)) ⟨qup_s .., fun i hi => by
      rw [qup_o _ _ _ (by omega), show i = 0 by omega, qup_s]⟩
    refine ⟨S2, ?_, kp_tr b1 f2 (by simp) (by simp), k1_tr (k1_kp (Q := [15]) b1 (by decide)) f3 (fun _ h => h) (fun _ h => h), f4, fun a b ha hb => ?_, fun c hc => ?_⟩
    · unfold F8_layWay
      simp (disch := omega) only [if_pos, if_neg, ite_true, ite_false, not_true_eq_false, Bool.false_eq_true, not_false_eq_true, eq_self, obs, ob1, ob2, obx, opx, li_0, li_1, li_2, li_3, li_4, li_5, li_6, li_7, li_8, li_9, li_10, li_14, li_16, li_20, li_21, li_24, li_25, li_32, li_44, li_48, li_57, li_60, li_64, li_81, li_84, li_99, li_100, li_101, li_108, li_111, li_115, li_116, li_120, li_140, li_255, li_500, li_999, li_1000, li_1092, li_1176, li_10000, li_100000, li_1000000, li_N, li_M, nI_add, pk_mul, pk_sub, pk_div, pk_rem, k_mod, nI_clamp, nI_leI, nI_ltI, nI_eq, qin_nI, nI_m1, nN_lt, nN_lt2, nN_le, nN_le2, nN_eq, nN_eq2, qin_nN, Option.some.injEq, Prod.mk.injEq, Sum.inl.injEq, e1, hk, qup_o, em, t2, if_neg hl]
      rw [hw.1] at f1
      exact f1
    · rw [f2 120 (by decide)]
      exact c1 a b ha hb
    · rw [f2 121 (by decide)]
      exact w1 c hc
theorem m_pl_loop {S : qSt} {n k c : Nat} {p : Nat → Nat} (hR : isRM S p k) (hk : k ≤ 9) (hp : ∀ i, i < k → p i < 9) (hc : c < 9) : ∀ j i f, i + j = k → j < f → B8_placeOf_2 n f (nI c) (nI i) S = some (ff (fun i => decide (p i = c)) j i) := by
  intro j
  induction j with
  | zero =>
    intro i f hs hf
    obtain ⟨g, rfl, hg⟩ := fuel_s hf
    rw [B8_placeOf_2]
    simp (disch := omega) only [if_pos, if_neg, ite_true, ite_false, not_true_eq_false, Bool.false_eq_true, not_false_eq_true, eq_self, obs, ob1, ob2, obx, opx, li_0, li_1, li_2, li_3, li_4, li_5, li_6, li_7, li_8, li_9, li_10, li_14, li_16, li_20, li_21, li_24, li_25, li_32, li_44, li_48, li_57, li_60, li_64, li_81, li_84, li_99, li_100, li_101, li_108, li_111, li_115, li_116, li_120, li_140, li_255, li_500, li_999, li_1000, li_1092, li_1176, li_10000, li_100000, li_1000000, li_N, li_M, nI_add, pk_mul, pk_sub, pk_div, pk_rem, k_mod, nI_clamp, nI_leI, nI_ltI, nI_eq, qin_nI, nI_m1, nN_lt, nN_lt2, nN_le, nN_le2, nN_eq, nN_eq2, qin_nN, Option.some.injEq, Prod.mk.injEq, Sum.inl.injEq, hR.1, ff]
  | succ j ih =>
    intro i f hs hf
    obtain ⟨g, rfl, hg⟩ := fuel_s hf
    have := hp i (by omega)
    rw [B8_placeOf_2, ff]
    simp (disch := omega) only [if_pos, if_neg, ite_true, ite_false, not_true_eq_false, Bool.false_eq_true, not_false_eq_true, eq_self, obs, ob1, ob2, obx, opx, li_0, li_1, li_2, li_3, li_4, li_5, li_6, li_7, li_8, li_9, li_10, li_14, li_16, li_20, li_21, li_24, li_25, li_32, li_44, li_48, li_57, li_60, li_64, li_81, li_84, li_99, li_100, li_101, li_108, li_111, li_115, li_116, li_120, li_140, li_255, li_500, li_999, li_1000, li_1092, li_1176, li_10000, li_100000, li_1000000, li_N, li_M, nI_add, pk_mul, pk_sub, pk_div, pk_rem, k_mod, nI_clamp, nI_leI, nI_ltI, nI_eq, qin_nI, nI_m1, nN_lt, nN_lt2, nN_le, nN_le2, nN_eq, nN_eq2, qin_nN, Option.some.injEq, Prod.mk.injEq, Sum.inl.injEq, hR.1, hR.2 i (by omega)]
    rw [ih (i + 1) g (by omega) (by omega)]
    by_cases q : p i = c <;> simp [q]
theorem m_pl {S : qSt} {n k c : Nat} {p : Nat → Nat} (hR : isRM S p k) (hk : k ≤ 9) (hp : ∀ i, i < k → p i < 9) (hc : c < 9) (hn : 100 ≤ n) : F8_placeOf n (nI c) S = some (pl p k c) := m_pl_loop hR hk hp hc k 0 n (by omega) (by omega)
theorem m_at {S : qSt} {k i : Nat} {p : Nat → Nat} (hR : isRM S p k) (hk : k ≤ 9) (hi : i < 2 ^ 31) : F8_at (nI i) S = some (if i < k then nI (p i) else nN) := by
  unfold F8_at
  simp (disch := omega) only [if_pos, if_neg, ite_true, ite_false, not_true_eq_false, Bool.false_eq_true, not_false_eq_true, eq_self, obs, ob1, ob2, obx, opx, li_0, li_1, li_2, li_3, li_4, li_5, li_6, li_7, li_8, li_9, li_10, li_14, li_16, li_20, li_21, li_24, li_25, li_32, li_44, li_48, li_57, li_60, li_64, li_81, li_84, li_99, li_100, li_101, li_108, li_111, li_115, li_116, li_120, li_140, li_255, li_500, li_999, li_1000, li_1092, li_1176, li_10000, li_100000, li_1000000, li_N, li_M, nI_add, pk_mul, pk_sub, pk_div, pk_rem, k_mod, nI_clamp, nI_leI, nI_ltI, nI_eq, qin_nI, nI_m1, nN_lt, nN_lt2, nN_le, nN_le2, nN_eq, nN_eq2, qin_nN, Option.some.injEq, Prod.mk.injEq, Sum.inl.injEq, hR.1]
  by_cases q : i < k
  · simp (disch := omega) only [if_pos, if_neg, ite_true, ite_false, not_true_eq_false, Bool.false_eq_true, not_false_eq_true, eq_self, obs, ob1, ob2, obx, opx, li_0, li_1, li_2, li_3, li_4, li_5, li_6, li_7, li_8, li_9, li_10, li_14, li_16, li_20, li_21, li_24, li_25, li_32, li_44, li_48, li_57, li_60, li_64, li_81, li_84, li_99, li_100, li_101, li_108, li_111, li_115, li_116, li_120, li_140, li_255, li_500, li_999, li_1000, li_1092, li_1176, li_10000, li_100000, li_1000000, li_N, li_M, nI_add, pk_mul, pk_sub, pk_div, pk_rem, k_mod, nI_clamp, nI_leI, nI_ltI, nI_eq, qin_nI, nI_m1, nN_lt, nN_lt2, nN_le, nN_le2, nN_eq, nN_eq2, qin_nN, Option.some.injEq, Prod.mk.injEq, Sum.inl.injEq, hR.2 i q]
  · rw [if_pos (by omega), if_neg q]
theorem m_iw {S : qSt} {n m k s : Nat} {T : Tn} {p : Nat → Nat} (hkd : (kd m).2 = 84) (hT : isM S m 0 T) (hv : vT T) (hR : isRM S p k) (hk : k ≤ 9) (hp : ∀ i, i < k → p i < 9) (hinj : ∀ i j, i < k → j < k → p i = p j → i = j) (hs : s < T 0 1) (hn : 100 ≤ n) : (uP p k (T 1 s) (T 2 s) → F8_isOfWay n m (nI s) S = some (nI 1)) ∧ (¬ uP p k (T 1 s) (T 2 s) → F8_isOfWay n m (nI s) S = some (nI 0)) := by
  have h0 := hv.2.2.1
  have h9 := hv.2.1
  obtain ⟨q1, q3, q4⟩ := hT.2.2.2.2 s hs
  obtain ⟨v1, v2, v3, v4, v5⟩ := hv.2.2.2.2.2.2.1 s hs
  simp only [Nat.zero_add] at q1
  have key : ∀ a b, a < 9 → b < 9 → S m (4 + s) = nI a → S m (24 + s) = nI b → F8_isOfWay n m (nI s) S = some (uI (pl p k a) (pl p k b)) := by
    intro a b ha hb g1 g2
    unfold F8_isOfWay B8_isOfWay_53 uI
    simp (disch := omega) only [if_pos, if_neg, ite_true, ite_false, not_true_eq_false, Bool.false_eq_true, not_false_eq_true, eq_self, obs, ob1, ob2, obx, opx, li_0, li_1, li_2, li_3, li_4, li_5, li_6, li_7, li_8, li_9, li_10, li_14, li_16, li_20, li_21, li_24, li_25, li_32, li_44, li_48, li_57, li_60, li_64, li_81, li_84, li_99, li_100, li_101, li_108, li_111, li_115, li_116, li_120, li_140, li_255, li_500, li_999, li_1000, li_1092, li_1176, li_10000, li_100000, li_1000000, li_N, li_M, nI_add, pk_mul, pk_sub, pk_div, pk_rem, k_mod, nI_clamp, nI_leI, nI_ltI, nI_eq, qin_nI, nI_m1, nN_lt, nN_lt2, nN_le, nN_le2, nN_eq, nN_eq2, qin_nN, Option.some.injEq, Prod.mk.injEq, Sum.inl.injEq, hkd, g1, g2, m_pl (n := n) hR hk hp ha hn, m_pl (n := n) hR hk hp hb hn]
    generalize pl p k a = x
    generalize pl p k b = y
    by_cases q1 : x = nN <;> by_cases q2 : y = nN <;> by_cases q3 : x - y = nI 1 <;> by_cases q4 : y - x = nI 1 <;> simp [q1, q2, q3, q4]
  rcases q1 with ⟨g1, g2⟩ | ⟨g1, g2⟩
  · rw [key _ _ (by omega) (by omega) g1 g2]
    have := uI_y (a := T 1 s) (b := T 2 s) hk hinj
    exact ⟨fun h => by rw [this.1 h], fun h => by rw [this.2 h]⟩
  · rw [key _ _ (by omega) (by omega) g1 g2]
    have := uI_y (a := T 2 s) (b := T 1 s) hk hinj
    exact ⟨fun h => by rw [this.1 (uP_sym h)], fun h => by rw [this.2 (fun z => h (uP_sym z))]⟩
