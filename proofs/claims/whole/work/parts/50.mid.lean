/-! MIDDLE, SAVES -/
def fa (D : Nat → Nat) : Nat → Nat → Nat → Option Nat
  | 0, _, m => some m
  | j + 1, o, m => if D o = gU then none else fa D j (o + 1) (max m (D o / 100))
def oI : Option Nat → Int32
  | none => nN
  | some r => nI r
def md (R : Nat → Option Nat) : Nat → Nat → Int32 → Nat → Int32
  | 0, _, f, _ => f
  | j + 1, c, f, m => match R c with
    | none => nN
    | some r => if r < m then md R j (c + 1) (nI c) r else md R j (c + 1) f m
theorem fa_le {D : Nat → Nat} (hD : ∀ c, c < 9 → D c ≤ gU) : ∀ j o m r, o + j ≤ 9 → m ≤ 10000 → fa D j o m = some r → r ≤ 10000 := by
  have hU : gU = 1000000 := rfl
  intro j
  induction j with
  | zero =>
    intro o m r _ hm h
    cases h
    exact hm
  | succ j ih =>
    intro o m r ho hm h
    rw [fa] at h
    have := hD o (by omega)
    by_cases q : D o = gU
    · rw [if_pos q] at h
      cases h
    · rw [if_neg q] at h
      exact ih (o + 1) _ r (by omega) (by omega) h
section QMI
variable {S : qSt} {T : Tn} {n : Nat}
theorem c_fa_loop {o t k : Nat} {e : Gr} {D W : Nat → Nat} (hT : isT S 8 T) (hv : vK k T) (he : gOK e) (ht : t < 9) (hD : gD 100 e t D) (hW16 : gD 16 e t W) (hW : isW S (o + 1) W) : ∀ j c f m, c + j = T 0 0 → j < f → m ≤ 10000 → B2_farthest_4 n o 8 f (nI m) (nI c) S = some (oI (fa D j c m)) := by
  have h9 := hv.2.1
  have hU : gU = 1000000 := rfl
  intro j
  induction j with
  | zero =>
    intro c f m hs hf hm
    obtain ⟨g, rfl, hg⟩ := fuel_s hf
    rw [B2_farthest_4]
    simp (disch := omega) only [if_pos, if_neg, ite_true, ite_false, not_true_eq_false, Bool.false_eq_true, not_false_eq_true, eq_self, obs, ob1, ob2, obx, opx, li_0, li_1, li_2, li_3, li_4, li_5, li_6, li_7, li_8, li_9, li_10, li_14, li_16, li_20, li_21, li_24, li_25, li_32, li_44, li_48, li_57, li_60, li_64, li_81, li_84, li_99, li_100, li_101, li_108, li_111, li_115, li_116, li_120, li_140, li_255, li_500, li_999, li_1000, li_1092, li_1176, li_10000, li_100000, li_1000000, li_N, li_M, nI_add, pk_mul, pk_sub, pk_div, pk_rem, k_mod, nI_clamp, nI_leI, nI_ltI, nI_eq, qin_nI, nI_m1, nN_lt, nN_lt2, nN_le, nN_le2, nN_eq, nN_eq2, qin_nN, Option.some.injEq, Prod.mk.injEq, Sum.inl.injEq, hT.1, fa, oI]
  | succ j ih =>
    intro c f m hs hf hm
    obtain ⟨g, rfl, hg⟩ := fuel_s hf
    have hDc := hD.1.2.1 c (by omega)
    have hl := c_lf2 (o := o) he ht hD hW16 hW (show c < 9 by omega)
    rw [B2_farthest_4, fa]
    by_cases q : D c = gU
    · have hN : lenI (D c) = nN := if_pos q
      rw [hN] at hl
      simp (disch := omega) only [if_pos, if_neg, ite_true, ite_false, not_true_eq_false, Bool.false_eq_true, not_false_eq_true, eq_self, obs, ob1, ob2, obx, opx, li_0, li_1, li_2, li_3, li_4, li_5, li_6, li_7, li_8, li_9, li_10, li_14, li_16, li_20, li_21, li_24, li_25, li_32, li_44, li_48, li_57, li_60, li_64, li_81, li_84, li_99, li_100, li_101, li_108, li_111, li_115, li_116, li_120, li_140, li_255, li_500, li_999, li_1000, li_1092, li_1176, li_10000, li_100000, li_1000000, li_N, li_M, nI_add, pk_mul, pk_sub, pk_div, pk_rem, k_mod, nI_clamp, nI_leI, nI_ltI, nI_eq, qin_nI, nI_m1, nN_lt, nN_lt2, nN_le, nN_le2, nN_eq, nN_eq2, qin_nN, Option.some.injEq, Prod.mk.injEq, Sum.inl.injEq, hT.1, hl, q, oI]
    · have hN : lenI (D c) = nI (D c / 100) := if_neg q
      rw [hN] at hl
      simp (disch := omega) only [if_pos, if_neg, ite_true, ite_false, not_true_eq_false, Bool.false_eq_true, not_false_eq_true, eq_self, obs, ob1, ob2, obx, opx, li_0, li_1, li_2, li_3, li_4, li_5, li_6, li_7, li_8, li_9, li_10, li_14, li_16, li_20, li_21, li_24, li_25, li_32, li_44, li_48, li_57, li_60, li_64, li_81, li_84, li_99, li_100, li_101, li_108, li_111, li_115, li_116, li_120, li_140, li_255, li_500, li_999, li_1000, li_1092, li_1176, li_10000, li_100000, li_1000000, li_N, li_M, nI_add, pk_mul, pk_sub, pk_div, pk_rem, k_mod, nI_clamp, nI_leI, nI_ltI, nI_eq, qin_nI, nI_m1, nN_lt, nN_lt2, nN_le, nN_le2, nN_eq, nN_eq2, qin_nN, Option.some.injEq, Prod.mk.injEq, Sum.inl.injEq, hT.1, hl, ite_max]
      exact ih (c + 1) g _ (by omega) (by omega) (by omega)
theorem m_fa_loop {K : Int32 → Int32 → Int32 → qSt → Option (Int32 × qSt)} {v1 v2 v3 : Int32} {D : Nat → Nat} {k : Nat} (hT : isM S 114 0 T) (hv : vK k T) (hW : isW S 121 D) (hD : ∀ c, c < 9 → D c ≤ gU) : ∀ j c f m, c + j = T 0 0 → j < f → m ≤ 10000 → B8_middle_45 n K f v1 v2 v3 (nI m) (nI c) S = (match fa D j c m with
    | none => some (nN, S)
    | some r => B8_middle_102 n K v1 v2 v3 (nI r) S) := by
  have h9 := hv.2.1
  have hU : gU = 1000000 := rfl
  have t0 : S 114 0 = nI (T 0 0) := hT.1
  intro j
  induction j with
  | zero =>
    intro c f m hs hf hm
    obtain ⟨g, rfl, hg⟩ := fuel_s hf
    rw [B8_middle_45]
    simp (disch := omega) only [if_pos, if_neg, ite_true, ite_false, not_true_eq_false, Bool.false_eq_true, not_false_eq_true, eq_self, obs, ob1, ob2, obx, opx, li_0, li_1, li_2, li_3, li_4, li_5, li_6, li_7, li_8, li_9, li_10, li_14, li_16, li_20, li_21, li_24, li_25, li_32, li_44, li_48, li_57, li_60, li_64, li_81, li_84, li_99, li_100, li_101, li_108, li_111, li_115, li_116, li_120, li_140, li_255, li_500, li_999, li_1000, li_1092, li_1176, li_10000, li_100000, li_1000000, li_N, li_M, nI_add, pk_mul, pk_sub, pk_div, pk_rem, k_mod, nI_clamp, nI_leI, nI_ltI, nI_eq, qin_nI, nI_m1, nN_lt, nN_lt2, nN_le, nN_le2, nN_eq, nN_eq2, qin_nN, Option.some.injEq, Prod.mk.injEq, Sum.inl.injEq, t0, fa]
  | succ j ih =>
    intro c f m hs hf hm
    obtain ⟨g, rfl, hg⟩ := fuel_s hf
    have hDc := hD c (by omega)
    rw [B8_middle_45, fa]
    by_cases q : D c = gU
    · have hl : F8_lengthOf (nI (D c)) S = nN := by rw [m_len hDc, if_pos q]
      simp (disch := omega) only [if_pos, if_neg, ite_true, ite_false, not_true_eq_false, Bool.false_eq_true, not_false_eq_true, eq_self, obs, ob1, ob2, obx, opx, li_0, li_1, li_2, li_3, li_4, li_5, li_6, li_7, li_8, li_9, li_10, li_14, li_16, li_20, li_21, li_24, li_25, li_32, li_44, li_48, li_57, li_60, li_64, li_81, li_84, li_99, li_100, li_101, li_108, li_111, li_115, li_116, li_120, li_140, li_255, li_500, li_999, li_1000, li_1092, li_1176, li_10000, li_100000, li_1000000, li_N, li_M, nI_add, pk_mul, pk_sub, pk_div, pk_rem, k_mod, nI_clamp, nI_leI, nI_ltI, nI_eq, qin_nI, nI_m1, nN_lt, nN_lt2, nN_le, nN_le2, nN_eq, nN_eq2, qin_nN, Option.some.injEq, Prod.mk.injEq, Sum.inl.injEq, t0, hW c (by omega), hl]
    · have hl : F8_lengthOf (nI (D c)) S = nI (D c / 100) := by rw [m_len hDc, if_neg q]
      simp (disch := omega) only [if_pos, if_neg, ite_true, ite_false, not_true_eq_false, Bool.false_eq_true, not_false_eq_true, eq_self, obs, ob1, ob2, obx, opx, li_0, li_1, li_2, li_3, li_4, li_5, li_6, li_7, li_8, li_9, li_10, li_14, li_16, li_20, li_21, li_24, li_25, li_32, li_44, li_48, li_57, li_60, li_64, li_81, li_84, li_99, li_100, li_101, li_108, li_111, li_115, li_116, li_120, li_140, li_255, li_500, li_999, li_1000, li_1092, li_1176, li_10000, li_100000, li_1000000, li_N, li_M, nI_add, pk_mul, pk_sub, pk_div, pk_rem, k_mod, nI_clamp, nI_leI, nI_ltI, nI_eq, qin_nI, nI_m1, nN_lt, nN_lt2, nN_le, nN_le2, nN_eq, nN_eq2, qin_nN, Option.some.injEq, Prod.mk.injEq, Sum.inl.injEq, t0, hW c (by omega), hl, B8_middle_94]
      by_cases w : D c / 100 ≤ m
      · rw [if_pos w, Nat.max_eq_left w]
        exact ih (c + 1) g m (by omega) (by omega) hm
      · rw [if_neg w, Nat.max_eq_right (by omega)]
        exact ih (c + 1) g _ (by omega) (by omega) (by omega)
theorem c_md_loop {S0 : qSt} {e : Gr} {Dc : Nat → Nat → Nat} (hT : isT S0 8 T) (hv : vT T) (hG : isG e T 9999) (hDc : ∀ c, c < 9 → gD 100 e c (Dc c)) (hn : 100 ≤ n) : ∀ j c f S v y m, c + j = T 0 0 → j < f → ((v = nN ∧ m = 1000000) ∨ (v ≠ nN ∧ y = nI m ∧ m ≤ 10000)) → kp (pR 103) S0 S → ∃ S2, B7_middle_8 n f v y (nI c) S = some (md (fun c => fa (Dc c) (T 0 0) 0 0) j c v m, S2) ∧ kp (pR 103) S0 S2 := by
  have h9 := hv.2.1
  have h20 := hv.2.2.1
  have he := isG_ok hv hG
  intro j
  induction j with
  | zero =>
    intro c f S v y m hs hf hi hk
    obtain ⟨g, rfl, hg⟩ := fuel_s hf
    have hT1 := isT_ap hT (Or.inl (by omega)) hk
    refine ⟨S, ?_, hk⟩
    rw [B7_middle_8]
    simp (disch := omega) only [if_pos, if_neg, ite_true, ite_false, not_true_eq_false, Bool.false_eq_true, not_false_eq_true, eq_self, obs, ob1, ob2, obx, opx, li_0, li_1, li_2, li_3, li_4, li_5, li_6, li_7, li_8, li_9, li_10, li_14, li_16, li_20, li_21, li_24, li_25, li_32, li_44, li_48, li_57, li_60, li_64, li_81, li_84, li_99, li_100, li_101, li_108, li_111, li_115, li_116, li_120, li_140, li_255, li_500, li_999, li_1000, li_1092, li_1176, li_10000, li_100000, li_1000000, li_N, li_M, nI_add, pk_mul, pk_sub, pk_div, pk_rem, k_mod, nI_clamp, nI_leI, nI_ltI, nI_eq, qin_nI, nI_m1, nN_lt, nN_lt2, nN_le, nN_le2, nN_eq, nN_eq2, qin_nN, Option.some.injEq, Prod.mk.injEq, Sum.inl.injEq, hT1.1, md]
  | succ j ih =>
    intro c f S v y m hs hf hi hk
    obtain ⟨g, rfl, hg⟩ := fuel_s hf
    have hT1 := isT_ap hT (Or.inl (by omega)) hk
    have hD := hDc c (by omega)
    have hW16 := gConv_D he (show c < 9 by omega) hD
    obtain ⟨S1, e1, k1, w1⟩ := c_weigh (o := 103) (n := n) hT1 (by decide) hv (by omega) hG (by omega) hW16 (by omega) hn
    have k2 : kp (pR 103) S0 S1 := kp_tr hk k1 (fun _ h => h) (by simp)
    have hT2 := isT_ap hT (Or.inl (by omega)) k2
    have hf1 : F2_farthest n 103 8 S1 = some (oI (fa (Dc c) (T 0 0) 0 0)) := c_fa_loop (n := n) hT2 hv he (by omega) hD hW16 w1 (T 0 0) 0 n 0 (by omega) (by omega) (by omega)
    rw [B7_middle_8, md]
    try dsimp only
    cases hr : fa (Dc c) (T 0 0) 0 0 with
    | none =>
      rw [hr] at hf1
      refine ⟨S1, ?_, k2⟩
      simp (disch := omega) only [if_pos, if_neg, ite_true, ite_false, not_true_eq_false, Bool.false_eq_true, not_false_eq_true, eq_self, obs, ob1, ob2, obx, opx, li_0, li_1, li_2, li_3, li_4, li_5, li_6, li_7, li_8, li_9, li_10, li_14, li_16, li_20, li_21, li_24, li_25, li_32, li_44, li_48, li_57, li_60, li_64, li_81, li_84, li_99, li_100, li_101, li_108, li_111, li_115, li_116, li_120, li_140, li_255, li_500, li_999, li_1000, li_1092, li_1176, li_10000, li_100000, li_1000000, li_N, li_M, nI_add, pk_mul, pk_sub, pk_div, pk_rem, k_mod, nI_clamp, nI_leI, nI_ltI, nI_eq, qin_nI, nI_m1, nN_lt, nN_lt2, nN_le, nN_le2, nN_eq, nN_eq2, qin_nN, Option.some.injEq, Prod.mk.injEq, Sum.inl.injEq, hT1.1, e1, hf1, oI]
    | some r =>
      rw [hr] at hf1
      have hr1 := fa_le (fun c hc => hD.1.2.1 c hc) (T 0 0) 0 0 r (by omega) (by omega) hr
      have step : (if S 8 0 ≤ nI c then some (v, S) else ob1 (F2_weigh n 103 8 (nI c) S) fun S2 => ob1 (F2_farthest n 103 8 S2) fun r4 => if ¬ r4 = (-999) then (if v = (-999) then (B7_middle_69 n (B7_middle_8 n g) (nI c) r4 S2) else (if y ≤ r4 then (B7_middle_74 n (B7_middle_8 n g) v y (nI c) S2) else (B7_middle_69 n (B7_middle_8 n g) (nI c) r4 S2))) else (some ((-999), S2))) = if r < m then B7_middle_8 n g (nI c) (nI r) (nI (c + 1)) S1 else B7_middle_8 n g v y (nI (c + 1)) S1 := by
        rcases hi with ⟨rfl, rfl⟩ | ⟨i1, rfl, i3⟩
        · simp (disch := omega) only [if_pos, if_neg, ite_true, ite_false, not_true_eq_false, Bool.false_eq_true, not_false_eq_true, eq_self, obs, ob1, ob2, obx, opx, li_0, li_1, li_2, li_3, li_4, li_5, li_6, li_7, li_8, li_9, li_10, li_14, li_16, li_20, li_21, li_24, li_25, li_32, li_44, li_48, li_57, li_60, li_64, li_81, li_84, li_99, li_100, li_101, li_108, li_111, li_115, li_116, li_120, li_140, li_255, li_500, li_999, li_1000, li_1092, li_1176, li_10000, li_100000, li_1000000, li_N, li_M, nI_add, pk_mul, pk_sub, pk_div, pk_rem, k_mod, nI_clamp, nI_leI, nI_ltI, nI_eq, qin_nI, nI_m1, nN_lt, nN_lt2, nN_le, nN_le2, nN_eq, nN_eq2, qin_nN, Option.some.injEq, Prod.mk.injEq, Sum.inl.injEq, hT1.1, e1, hf1, oI, B7_middle_69, B7_middle_74]
        · simp (disch := omega) only [if_pos, if_neg, ite_true, ite_false, not_true_eq_false, Bool.false_eq_true, not_false_eq_true, eq_self, obs, ob1, ob2, obx, opx, li_0, li_1, li_2, li_3, li_4, li_5, li_6, li_7, li_8, li_9, li_10, li_14, li_16, li_20, li_21, li_24, li_25, li_32, li_44, li_48, li_57, li_60, li_64, li_81, li_84, li_99, li_100, li_101, li_108, li_111, li_115, li_116, li_120, li_140, li_255, li_500, li_999, li_1000, li_1092, li_1176, li_10000, li_100000, li_1000000, li_N, li_M, nI_add, pk_mul, pk_sub, pk_div, pk_rem, k_mod, nI_clamp, nI_leI, nI_ltI, nI_eq, qin_nI, nI_m1, nN_lt, nN_lt2, nN_le, nN_le2, nN_eq, nN_eq2, qin_nN, Option.some.injEq, Prod.mk.injEq, Sum.inl.injEq, hT1.1, e1, hf1, oI, B7_middle_69, B7_middle_74, i1]
          by_cases w : r < m
          · rw [if_pos w, if_neg (by omega)]
          · rw [if_neg w, if_pos (by omega)]
      rw [step]
      try dsimp only
      by_cases w : r < m
      · rw [if_pos w, if_pos w]
        exact ih (c + 1) g S1 _ _ r (by omega) (by omega) (Or.inr ⟨fun z => nN_ne (by omega) z, rfl, hr1⟩) k2
      · rw [if_neg w, if_neg w]
        exact ih (c + 1) g S1 _ _ m (by omega) (by omega) hi k2
theorem m_md_loop {S0 : qSt} {e : Gr} {Dc : Nat → Nat → Nat} (hT : isM S0 114 0 T) (hv : vT T) (he : gOK e) (hC : isC S0 e) (hDc : ∀ c, c < 9 → gD 100 e c (Dc c)) (hn : 100000000 ≤ n) : ∀ j c f S v m, c + j = T 0 0 → j < f → m ≤ 1000000 → kp [121] S0 S → ∃ S2, B8_middle_20 n f v (nI m) (nI c) S = some (md (fun c => fa (Dc c) (T 0 0) 0 0) j c v m, S2) ∧ kp [121] S0 S2 := by
  have h9 := hv.2.1
  intro j
  induction j with
  | zero =>
    intro c f S v m hs hf hi hk
    obtain ⟨g, rfl, hg⟩ := fuel_s hf
    have hT1 := isM_kp hT hk (by decide)
    have t0 : S 114 0 = nI (T 0 0) := hT1.1
    refine ⟨S, ?_, hk⟩
    rw [B8_middle_20]
    simp (disch := omega) only [if_pos, if_neg, ite_true, ite_false, not_true_eq_false, Bool.false_eq_true, not_false_eq_true, eq_self, obs, ob1, ob2, obx, opx, li_0, li_1, li_2, li_3, li_4, li_5, li_6, li_7, li_8, li_9, li_10, li_14, li_16, li_20, li_21, li_24, li_25, li_32, li_44, li_48, li_57, li_60, li_64, li_81, li_84, li_99, li_100, li_101, li_108, li_111, li_115, li_116, li_120, li_140, li_255, li_500, li_999, li_1000, li_1092, li_1176, li_10000, li_100000, li_1000000, li_N, li_M, nI_add, pk_mul, pk_sub, pk_div, pk_rem, k_mod, nI_clamp, nI_leI, nI_ltI, nI_eq, qin_nI, nI_m1, nN_lt, nN_lt2, nN_le, nN_le2, nN_eq, nN_eq2, qin_nN, Option.some.injEq, Prod.mk.injEq, Sum.inl.injEq, t0, md]
  | succ j ih =>
    intro c f S v m hs hf hi hk
    obtain ⟨g, rfl, hg⟩ := fuel_s hf
    have hT1 := isM_kp hT hk (by decide)
    have t0 : S 114 0 = nI (T 0 0) := hT1.1
    have hD := hDc c (by omega)
    have hC1 : isC S e := fun a b ha hb => by
      rw [hk 120 (by decide)]
      exact hC a b ha hb
    obtain ⟨S1, e1, k1, w1⟩ := m_far (n := n) (m := 114) he hC1 hD (show c < 9 by omega) hn
    have k2 : kp [121] S0 S1 := kp_tr hk k1 (fun _ h => h) (fun _ h => h)
    have hT2 := isM_kp hT k2 (by decide)
    have hin := m_fa_loop (n := n) (K := B8_middle_20 n g) (v1 := v) (v2 := nI m) (v3 := nI c) hT2 hv w1 (fun c hc => hD.1.2.1 c hc) (T 0 0) 0 n 0 (by omega) (by omega) (by omega)
    rw [B8_middle_20, md]
    simp (disch := omega) only [if_pos, if_neg, ite_true, ite_false, not_true_eq_false, Bool.false_eq_true, not_false_eq_true, eq_self, obs, ob1, ob2, obx, opx, li_0, li_1, li_2, li_3, li_4, li_5, li_6, li_7, li_8, li_9, li_10, li_14, li_16, li_20, li_21, li_24, li_25, li_32, li_44, li_48, li_57, li_60, li_64, li_81, li_84, li_99, li_100, li_101, li_108, li_111, li_115, li_116, li_120, li_140, li_255, li_500, li_999, li_1000, li_1092, li_1176, li_10000, li_100000, li_1000000, li_N, li_M, nI_add, pk_mul, pk_sub, pk_div, pk_rem, k_mod, nI_clamp, nI_leI, nI_ltI, nI_eq, qin_nI, nI_m1, nN_lt, nN_lt2, nN_le, nN_le2, nN_eq, nN_eq2, qin_nN, Option.some.injEq, Prod.mk.injEq, Sum.inl.injEq, t0, e1]
    rw [hin]
    cases hr : fa (Dc c) (T 0 0) 0 0 with
    | none => exact ⟨S1, rfl, k2⟩
    | some r =>
      have hr1 := fa_le (fun c hc => hD.1.2.1 c hc) (T 0 0) 0 0 r (by omega) (by omega) hr
      dsimp only
      unfold B8_middle_102 B8_middle_113 B8_middle_126
      simp (disch := omega) only [if_pos, if_neg, ite_true, ite_false, not_true_eq_false, Bool.false_eq_true, not_false_eq_true, eq_self, obs, ob1, ob2, obx, opx, li_0, li_1, li_2, li_3, li_4, li_5, li_6, li_7, li_8, li_9, li_10, li_14, li_16, li_20, li_21, li_24, li_25, li_32, li_44, li_48, li_57, li_60, li_64, li_81, li_84, li_99, li_100, li_101, li_108, li_111, li_115, li_116, li_120, li_140, li_255, li_500, li_999, li_1000, li_1092, li_1176, li_10000, li_100000, li_1000000, li_N, li_M, nI_add, pk_mul, pk_sub, pk_div, pk_rem, k_mod, nI_clamp, nI_leI, nI_ltI, nI_eq, qin_nI, nI_m1, nN_lt, nN_lt2, nN_le, nN_le2, nN_eq, nN_eq2, qin_nN, Option.some.injEq, Prod.mk.injEq, Sum.inl.injEq]
      by_cases w : r < m
      · simp (disch := omega) only [if_pos, if_neg, ite_true, ite_false, not_true_eq_false, Bool.false_eq_true, not_false_eq_true, eq_self, obs, ob1, ob2, obx, opx, li_0, li_1, li_2, li_3, li_4, li_5, li_6, li_7, li_8, li_9, li_10, li_14, li_16, li_20, li_21, li_24, li_25, li_32, li_44, li_48, li_57, li_60, li_64, li_81, li_84, li_99, li_100, li_101, li_108, li_111, li_115, li_116, li_120, li_140, li_255, li_500, li_999, li_1000, li_1092, li_1176, li_10000, li_100000, li_1000000, li_N, li_M, nI_add, pk_mul, pk_sub, pk_div, pk_rem, k_mod, nI_clamp, nI_leI, nI_ltI, nI_eq, qin_nI, nI_m1, nN_lt, nN_lt2, nN_le, nN_le2, nN_eq, nN_eq2, qin_nN, Option.some.injEq, Prod.mk.injEq, Sum.inl.injEq]
        exact ih (c + 1) g S1 _ r (by omega) (by omega) (by omega) k2
      · simp (disch := omega) only [if_pos, if_neg, ite_true, ite_false, not_true_eq_false, Bool.false_eq_true, not_false_eq_true, eq_self, obs, ob1, ob2, obx, opx, li_0, li_1, li_2, li_3, li_4, li_5, li_6, li_7, li_8, li_9, li_10, li_14, li_16, li_20, li_21, li_24, li_25, li_32, li_44, li_48, li_57, li_60, li_64, li_81, li_84, li_99, li_100, li_101, li_108, li_111, li_115, li_116, li_120, li_140, li_255, li_500, li_999, li_1000, li_1092, li_1176, li_10000, li_100000, li_1000000, li_N, li_M, nI_add, pk_mul, pk_sub, pk_div, pk_rem, k_mod, nI_clamp, nI_leI, nI_ltI, nI_eq, qin_nI, nI_m1, nN_lt, nN_lt2, nN_le, nN_le2, nN_eq, nN_eq2, qin_nN, Option.some.injEq, Prod.mk.injEq, Sum.inl.injEq]
        exact ih (c + 1) g S1 _ m (by omega) (by omega) hi k2
end QMI
theorem k_middle {S : qSt} {n : Nat} (h : Rel S) (hn : 100000000 ≤ n) : okc (ob2 (F7_middle n S) fun r2 S3 => ob2 (F8_middle n S3) fun r5 S6 => if r2 = r5 then (some S6) else (none)) := by
  obtain ⟨L, c, T, hc, H, F, K, hR, rm, ok⟩ := h
  have hv := ok.2.2.1
  have h9 := hv.2.1
  obtain ⟨e, hG⟩ := isG_ex T 9999 hv
  have he := isG_ok hv hG
  have key : ∀ c, ∃ D, c < 9 → gD 100 e c D := fun c => by
    by_cases q : c < 9
    · obtain ⟨D, hD⟩ := gD_ex 100 he q
      exact ⟨D, fun _ => hD⟩
    · exact ⟨fun _ => 0, fun z => absurd z q⟩
  obtain ⟨S1, e1, k1⟩ := c_md_loop (n := n) (Dc := fun c => Classical.choose (key c)) hR.2.1 hv hG (fun c hc => Classical.choose_spec (key c) hc) (by omega) (T 0 0) 0 n S nN (nI 0) 1000000 (by omega) (by omega) (Or.inl ⟨rfl, rfl⟩) kp_rfl
  have kC1 := kC_kp k1 (by simp)
  have rc1 := RC_kp hR k1 (by simp)
  have rm1 := RM_kC rm kC1
  obtain ⟨S2, e2, k2, c2⟩ := m_lc (n := n) (but := 9999) kr_114 (by omega) rm1.2.1 hv hG (by omega)
  rw [bI_N] at e2
  have hT2 := isM_kp rm1.2.1 k2 (by decide)
  obtain ⟨S3, e3, k3⟩ := m_md_loop (n := n) (Dc := fun c => Classical.choose (key c)) hT2 hv he c2 (fun c hc => Classical.choose_spec (key c) hc) hn (T 0 0) 0 n S2 nN 1000000 (by omega) (by omega) (by omega) kp_rfl
  obtain ⟨g1, g2, g3⟩ := m_keep2 rm1 (kp_tr (R := [120, 121]) k2 k3 (by simp) (by simp))
  refine ⟨S3, ?_, L, c, T, hc, H, F, K, RC_kM rc1 g2, g1, ok⟩
  have e1' : F7_middle n S = _ := e1
  unfold F8_middle
  simp (disch := omega) only [if_pos, if_neg, ite_true, ite_false, not_true_eq_false, Bool.false_eq_true, not_false_eq_true, eq_self, obs, ob1, ob2, obx, opx, li_0, li_1, li_2, li_3, li_4, li_5, li_6, li_7, li_8, li_9, li_10, li_14, li_16, li_20, li_21, li_24, li_25, li_32, li_44, li_48, li_57, li_60, li_64, li_81, li_84, li_99, li_100, li_101, li_108, li_111, li_115, li_116, li_120, li_140, li_255, li_500, li_999, li_1000, li_1092, li_1176, li_10000, li_100000, li_1000000, li_N, li_M, nI_add, pk_mul, pk_sub, pk_div, pk_rem, k_mod, nI_clamp, nI_leI, nI_ltI, nI_eq, qin_nI, nI_m1, nN_lt, nN_lt2, nN_le, nN_le2, nN_eq, nN_eq2, qin_nN, Option.some.injEq, Prod.mk.injEq, Sum.inl.injEq, e1', e2, e3]
/-! saves -/
theorem vK_put {k a b s l : Nat} {T : Tn} (hv : vK k T) (hs : s < T 0 1) (h1 : T 1 s = min a b) (h2 : T 2 s = max a b) (l1 : 1 ≤ l) (l2 : l ≤ 99) : vK k (tP T s a b l) := by
  obtain ⟨v0, v1, v2, v3, v4, v5, v6, v7⟩ := hv
  have q0 : ∀ x, tP T s a b l 0 x = T 0 x := fun x => by
    unfold tP
    rw [if_pos rfl]
  have q1 : ∀ x, tP T s a b l 1 x = T 1 x := fun x => by
    unfold tP
    rw [if_neg (by omega)]
    by_cases z : x = s
    · rw [if_pos z, if_pos rfl, z, h1]
    · rw [if_neg z]
  have q2 : ∀ x, tP T s a b l 2 x = T 2 x := fun x => by
    unfold tP
    rw [if_neg (by omega)]
    by_cases z : x = s
    · rw [if_pos z, if_neg (by omega), if_pos rfl, z, h2]
    · rw [if_neg z]
  have q3 : ∀ x, tP T s a b l 3 x = if x = s then l else T 3 x := fun x => by
    unfold tP
    rw [if_neg (by omega)]
    simp
  have q4 : ∀ x, tP T s a b l 4 x = if x = s then 0 else T 4 x := fun x => by
    unfold tP
    rw [if_neg (by omega)]
    simp
  unfold vK
  simp only [q0, q1, q2, q3, q4]
  refine ⟨v0, v1, v2, v3, v4, v5, fun x hx => ?_, v7⟩
  have := v6 x hx
  refine ⟨this.1, this.2.1, ?_, ?_, ?_⟩ <;> split <;> omega
theorem isG_put {e : Gr} {T : Tn} {k a b s l : Nat} (hv : vK k T) (hk : k ≤ 21) (hG : isG e T 9999) (hs : s < T 0 1) (h1 : T 1 s = min a b) (h2 : T 2 s = max a b) : isG (eU e a b l) (tP T s a b l) 9999 ∨ l = 0 := by
  obtain ⟨v0, v1, v2, v3, v4, v5, v6, v7⟩ := hv
  by_cases l0 : l = 0
  · exact Or.inr l0
  left
  have q0 : ∀ x, tP T s a b l 0 x = T 0 x := fun x => by
    unfold tP
    rw [if_pos rfl]
  have q1 : ∀ x, tP T s a b l 1 x = T 1 x := fun x => by
    unfold tP
    rw [if_neg (by omega)]
    by_cases z : x = s
    · rw [if_pos z, if_pos rfl, z, h1]
    · rw [if_neg z]
  have q2 : ∀ x, tP T s a b l 2 x = T 2 x := fun x => by
    unfold tP
    rw [if_neg (by omega)]
    by_cases z : x = s
    · rw [if_pos z, if_neg (by omega), if_pos rfl, z, h2]
    · rw [if_neg z]
  have q3 : ∀ x, tP T s a b l 3 x = if x = s then l else T 3 x := fun x => by
    unfold tP
    rw [if_neg (by omega)]
    simp
  have q4 : ∀ x, tP T s a b l 4 x = if x = s then 0 else T 4 x := fun x => by
    unfold tP
    rw [if_neg (by omega)]
    simp
  have hs6 := v6 s hs
  unfold isG jn
  simp only [q0, q1, q2, q3, q4]
  refine ⟨fun r hr h0 _ => ?_, fun x y hxy => ?_⟩
  · by_cases z : r = s
    · rw [if_pos z, z]
      unfold eU
      rw [if_pos (by omega), if_pos (by omega)]
      exact ⟨rfl, rfl⟩
    · rw [if_neg z] at h0 ⊢
      have := hG.1 r hr h0 (by omega)
      have hr6 := v6 r hr
      have ne : ¬ (T 1 r = T 1 s ∧ T 2 r = T 2 s) := fun w => z (v7 r s hr hs w.1 w.2)
      unfold eU
      rw [if_neg (by omega), if_neg (by omega)]
      exact this
  · unfold eU at hxy ⊢
    by_cases w : (x = a ∧ y = b) ∨ (x = b ∧ y = a)
    · rw [if_pos w]
      refine ⟨s, hs, if_pos rfl, by omega, (if_pos rfl).symm, by omega⟩
    · rw [if_neg w] at hxy ⊢
      obtain ⟨r, g1, g2, g3, g4, g5⟩ := hG.2 x y hxy
      have hrs : r ≠ s := fun z => by
        rw [z] at g5
        unfold jn at g5
        omega
      refine ⟨r, g1, by rw [if_neg hrs]; exact g2, g3, by rw [if_neg hrs]; exact g4, g5⟩
theorem isG_add {e : Gr} {T : Tn} {k a b l : Nat} (hv : vK k T) (hk : k ≤ 20) (hG : isG e T 9999) (hj : tj T a b = nN) (hab : a ≠ b) (hl : l ≠ 0) : isG (eU e a b l) (tA T a b l) 9999 := by
  have hn := tj_N (by have := hv.2.2.1; omega) hj
  obtain ⟨v0, v1, v2, v3, v4, v5, v6, v7⟩ := hv
  have q0 : tA T a b l 0 1 = T 0 1 + 1 := by
    unfold tA tP
    simp (disch := omega) only [qup_e, if_pos, if_neg, ite_true, ite_false, eq_self, and_self, true_and, and_true, tU]
  have q1 : ∀ x, tA T a b l 1 x = if x = T 0 1 then min a b else T 1 x := fun x => by
    unfold tA tP
    simp (disch := omega) only [qup_e, if_pos, if_neg, ite_true, ite_false, eq_self, and_self, true_and, and_true, tU]
  have q2 : ∀ x, tA T a b l 2 x = if x = T 0 1 then max a b else T 2 x := fun x => by
    unfold tA tP
    simp (disch := omega) only [qup_e, if_pos, if_neg, ite_true, ite_false, eq_self, and_self, true_and, and_true, tU]
  have q3 : ∀ x, tA T a b l 3 x = if x = T 0 1 then l else T 3 x := fun x => by
    unfold tA tP
    simp (disch := omega) only [qup_e, if_pos, if_neg, ite_true, ite_false, eq_self, and_self, true_and, and_true, tU]
  have q4 : ∀ x, tA T a b l 4 x = if x = T 0 1 then 0 else T 4 x := fun x => by
    unfold tA tP
    simp (disch := omega) only [qup_e, if_pos, if_neg, ite_true, ite_false, eq_self, and_self, true_and, and_true, tU]
  unfold isG jn
  simp only [q0, q1, q2, q3, q4]
  refine ⟨fun r hr h0 _ => ?_, fun x y hxy => ?_⟩
  · by_cases z : r = T 0 1
    · simp only [if_pos z]
      unfold eU
      rw [if_pos (by omega), if_pos (by omega)]
      exact ⟨rfl, rfl⟩
    · simp only [if_neg z] at h0 ⊢
      have := hG.1 r (by omega) h0 (by omega)
      have hr6 := v6 r (by omega)
      have ne := hn r (by omega)
      unfold eU
      rw [if_neg (by omega), if_neg (by omega)]
      exact this
  · unfold eU at hxy ⊢
    by_cases w : (x = a ∧ y = b) ∨ (x = b ∧ y = a)
    · rw [if_pos w]
      refine ⟨T 0 1, by omega, if_pos rfl, by omega, (if_pos rfl).symm, ?_⟩
      simp only [if_pos]
      omega
    · rw [if_neg w] at hxy ⊢
      obtain ⟨r, g1, g2, g3, g4, g5⟩ := hG.2 x y hxy
      have hrs : ¬ r = T 0 1 := by omega
      refine ⟨r, by omega, by rw [if_neg hrs]; exact g2, g3, by rw [if_neg hrs]; exact g4, ?_⟩
      simp only [if_neg hrs]
      exact g5
