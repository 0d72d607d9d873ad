/-! A STREET LEFT OUT -/
theorem isG_but {e e2 : Gr} {T : Tn} {but s a b k : Nat} (hv : vK k T) (hG : isG e T but) (hbut : T 0 1 ≤ but) (hG2 : isG e2 T s) (h : ¬ jn T s a b) : e2 a b = e a b := by
  by_cases q : e a b = 0
  · rw [q]
    refine Classical.byContradiction fun z => ?_
    obtain ⟨r, h1, h2, h3, h4, h5⟩ := hG2.2 a b z
    have := isG_jn hG h1 h2 (by omega) h5
    have := hv.2.2.2.2.2.2.1 r h1
    omega
  · obtain ⟨r, h1, h2, h3, h4, h5⟩ := hG.2 a b q
    have hrs : r ≠ s := fun z => h (z ▸ h5)
    rw [isG_jn hG2 h1 h2 hrs h5, h4]
theorem jn_uP {T : Tn} {p : Nat → Nat} {s k i : Nat} (hi : i + 1 < k) (h : jn T s (p i) (p (i + 1))) : uP p k (T 1 s) (T 2 s) := ⟨i, hi, by
  unfold jn at h
  omega⟩
theorem rem_le {e e2 : Gr} {T : Tn} {but s st k m : Nat} {D D2 : Nat → Nat} {p : Nat → Nat} (hv : vK k T) (hG : isG e T but) (hbut : T 0 1 ≤ but) (hG2 : isG e2 T s) (hD2 : gD 100 e2 (T 0 3) D2) (hw : isWay e D st (T 0 3) p m) (hn : ¬ uP p (m + 1) (T 1 s) (T 2 s)) : ∀ j, j ≤ m → D2 (p (m - j)) ≤ D (p (m - j)) := by
  intro j
  induction j with
  | zero =>
    intro _
    rw [Nat.sub_zero, hw.2.1, hD2.1.1]
    exact Nat.zero_le _
  | succ j ih =>
    intro hj
    have h1 := ih (by omega)
    have h2 := (hw.2.2 (m - (j + 1)) (by omega)).2.1
    have h3 : e2 (p (m - (j + 1))) (p (m - (j + 1) + 1)) = e (p (m - (j + 1))) (p (m - (j + 1) + 1)) := isG_but hv hG hbut hG2 (fun q => hn (jn_uP (by omega) q))
    have h4 := hD2.2 (p (m - (j + 1))) (p (m - (j + 1) + 1)) (by rw [h3]; exact h2.1)
    rw [h3] at h4
    rw [show m - (j + 1) + 1 = m - j by omega] at h4 h2
    have := h2.2
    omega
theorem rem_fin {e e2 : Gr} {T : Tn} {but s st k kk : Nat} {D D2 : Nat → Nat} {p : Nat → Nat} (hv : vK k T) (hG : isG e T but) (hbut : T 0 1 ≤ but) (hG2 : isG e2 T s) (hD2 : gD 100 e2 (T 0 3) D2) (hp : isBest e D st (T 0 3) p kk) (hn : ¬ uP p kk (T 1 s) (T 2 s)) (hU : D st ≠ gU) (hst : D st ≤ gU) : D2 st ≠ gU := by
  rcases hp with ⟨q, -⟩ | ⟨-, m, rfl, hw⟩
  · exact absurd q hU
  · have := rem_le hv hG hbut hG2 hD2 hw hn m (Nat.le_refl _)
    rw [Nat.sub_self, hw.1] at this
    omega
theorem uP_open {e : Gr} {T : Tn} {but s st k kk : Nat} {D : Nat → Nat} {p : Nat → Nat} (hv : vK k T) (hG : isG e T but) (hs : s < T 0 1) (hp : isBest e D st (T 0 3) p kk) (h : uP p kk (T 1 s) (T 2 s)) : T 4 s = 0 := by
  obtain ⟨i, hi, hh⟩ := h
  rcases hp with ⟨q, h0⟩ | ⟨-, m, rfl, hw⟩
  · omega
  · have h1 := (hw.2.2 i (by omega)).2.1.1
    obtain ⟨r, g1, g2, g3, g4, g5⟩ := hG.2 _ _ h1
    have v1 := hv.2.2.2.2.2.2.1 s hs
    have v2 := hv.2.2.2.2.2.2.1 r g1
    have : s = r := by
      refine hv.2.2.2.2.2.2.2 s r hs g1 ?_ ?_ <;> (unfold jn at g5; omega)
    rw [this]
    exact g2
/-- distances when each street is left out -/
theorem buts_ex {T : Tn} {k : Nat} (hv : vK k T) : ∃ (es : Nat → Gr) (Ds : Nat → Nat → Nat), ∀ s, isG (es s) T s ∧ gD 100 (es s) (T 0 3) (Ds s) ∧ Ds s (T 0 2) ≤ gU := by
  have h9 := hv.2.1
  have h2 := hv.2.2.2.1
  have h3 := hv.2.2.2.2.1
  have key : ∀ s, ∃ q : Gr × (Nat → Nat), isG q.1 T s ∧ gD 100 q.1 (T 0 3) q.2 ∧ q.2 (T 0 2) ≤ gU := fun s => by
    obtain ⟨e, hG⟩ := isG_ex T s hv
    have he := isG_ok hv hG
    obtain ⟨D, hD⟩ := gD_ex 100 he (show T 0 3 < 9 by omega)
    exact ⟨(e, D), hG, hD, hD.1.2.1 _ (by omega)⟩
  exact ⟨fun s => (Classical.choose (key s)).1, fun s => (Classical.choose (key s)).2, fun s => Classical.choose_spec (key s)⟩
theorem bool_ex (P : Nat → Prop) : ∃ b : Nat → Bool, ∀ s, b s = true ↔ P s := ⟨fun s => @decide (P s) (Classical.propDecidable _), fun s => by simp⟩
theorem isR_kp {S S2 : qSt} {o k : Nat} {p : Nat → Nat} {P : List Nat} (h : isR S o p k) (kk : kp P S S2) (h0 : o ∉ P) (h2 : o + 2 ∉ P) (h3 : o + 3 ∉ P) : isR S2 o p k := by
  unfold isR
  rw [kk o h0, kk _ h2, kk _ h3]
  exact h
section QNEED
variable {S0 : qSt} {T : Tn} {n kk : Nat} {p : Nat → Nat} {es : Nat → Gr} {Ds : Nat → Nat → Nat} {nd : Nat → Bool}
theorem c_need_loop (hT : isT S0 8 T) (hv : vT T) (hR : isR S0 103 p kk) (f1 : kk ≤ 9) (f3 : ∀ i j, i < kk → j < kk → p i = p j → i = j) (hes : ∀ s, isG (es s) T s ∧ gD 100 (es s) (T 0 3) (Ds s) ∧ Ds s (T 0 2) ≤ gU) (hnd : ∀ s, nd s = true ↔ (uP p kk (T 1 s) (T 2 s) ∧ Ds s (T 0 2) = gU)) (hn : 100 ≤ n) : ∀ j s f S x, s + j = T 0 1 → j < f → x ≤ s → kp pW S0 S → ∃ S2, B7_neededStreets_15 n f (nI x) (nI s) S = some (nI (x + cc nd j s), S2) ∧ kp pW S0 S2 := by
  have h20 := hv.2.2.1
  intro j
  induction j with
  | zero =>
    intro s f S x hs hf hx hk
    obtain ⟨g, rfl, hg⟩ := fuel_s hf
    have hT1 := isT_kp hT hk (by decide) (by decide) (by decide) (by decide) (by decide)
    refine ⟨S, ?_, hk⟩
    rw [B7_neededStreets_15]
    simp (disch := omega) only [if_pos, if_neg, ite_true, ite_false, not_true_eq_false, Bool.false_eq_true, not_false_eq_true, eq_self, obs, ob1, ob2, obx, opx, li_0, li_1, li_2, li_3, li_4, li_5, li_6, li_7, li_8, li_9, li_10, li_14, li_16, li_20, li_21, li_24, li_25, li_32, li_44, li_48, li_57, li_60, li_64, li_81, li_84, li_99, li_100, li_101, li_108, li_111, li_115, li_116, li_120, li_140, li_255, li_500, li_999, li_1000, li_1092, li_1176, li_10000, li_100000, li_1000000, li_N, li_M, nI_add, pk_mul, pk_sub, pk_div, pk_rem, k_mod, nI_clamp, nI_leI, nI_ltI, nI_eq, qin_nI, nI_m1, nN_lt, nN_lt2, nN_le, nN_le2, nN_eq, nN_eq2, qin_nN, Option.some.injEq, Prod.mk.injEq, Sum.inl.injEq, hT1.2.1, cc, Nat.add_zero]
  | succ j ih =>
    intro s f S x hs hf hx hk
    obtain ⟨g, rfl, hg⟩ := fuel_s hf
    have hT1 := isT_kp hT hk (by decide) (by decide) (by decide) (by decide) (by decide)
    have hR1 := isR_kp hR hk (by decide) (by decide) (by decide)
    have hu := c_uses (s := s) hT1 hv (by omega) hR1 f1 f3 (by omega)
    by_cases q : uP p kk (T 1 s) (T 2 s)
    · obtain ⟨S1, e1, k1⟩ := c_lw (n := n) hT1 hv (show s < T 0 1 by omega) (hes s).1 (hes s).2.1 hn
      have k2 : kp pW S0 S1 := kp_tr hk k1 (fun _ h => h) (fun _ h => h)
      by_cases q2 : Ds s (T 0 2) = gU
      · have hb : nd s = true := (hnd s).mpr ⟨q, q2⟩
        obtain ⟨S2, e2, k3⟩ := ih (s + 1) g S1 (x + 1) (by omega) (by omega) (by omega) k2
        refine ⟨S2, ?_, k3⟩
        rw [B7_neededStreets_15, cc]
        simp (disch := omega) only [if_pos, if_neg, ite_true, ite_false, not_true_eq_false, Bool.false_eq_true, not_false_eq_true, eq_self, obs, ob1, ob2, obx, opx, li_0, li_1, li_2, li_3, li_4, li_5, li_6, li_7, li_8, li_9, li_10, li_14, li_16, li_20, li_21, li_24, li_25, li_32, li_44, li_48, li_57, li_60, li_64, li_81, li_84, li_99, li_100, li_101, li_108, li_111, li_115, li_116, li_120, li_140, li_255, li_500, li_999, li_1000, li_1092, li_1176, li_10000, li_100000, li_1000000, li_N, li_M, nI_add, pk_mul, pk_sub, pk_div, pk_rem, k_mod, nI_clamp, nI_leI, nI_ltI, nI_eq, qin_nI, nI_m1, nN_lt, nN_lt2, nN_le, nN_le2, nN_eq, nN_eq2, qin_nN, Option.some.injEq, Prod.mk.injEq, Sum.inl.injEq, hT1.2.1, hu.1 q, e1, (lenI_N (hes s).2.2).mpr q2, hb, B7_neededStreets_55]
        rw [e2, Nat.add_assoc]
      · have hb : nd s = false := by
          cases h : nd s with
          | false => rfl
          | true => exact absurd ((hnd s).mp h).2 q2
        obtain ⟨S2, e2, k3⟩ := ih (s + 1) g S1 x (by omega) (by omega) (by omega) k2
        refine ⟨S2, ?_, k3⟩
        rw [B7_neededStreets_15, cc]
        simp (disch := omega) only [if_pos, if_neg, ite_true, ite_false, not_true_eq_false, Bool.false_eq_true, not_false_eq_true, eq_self, obs, ob1, ob2, obx, opx, li_0, li_1, li_2, li_3, li_4, li_5, li_6, li_7, li_8, li_9, li_10, li_14, li_16, li_20, li_21, li_24, li_25, li_32, li_44, li_48, li_57, li_60, li_64, li_81, li_84, li_99, li_100, li_101, li_108, li_111, li_115, li_116, li_120, li_140, li_255, li_500, li_999, li_1000, li_1092, li_1176, li_10000, li_100000, li_1000000, li_N, li_M, nI_add, pk_mul, pk_sub, pk_div, pk_rem, k_mod, nI_clamp, nI_leI, nI_ltI, nI_eq, qin_nI, nI_m1, nN_lt, nN_lt2, nN_le, nN_le2, nN_eq, nN_eq2, qin_nN, Option.some.injEq, Prod.mk.injEq, Sum.inl.injEq, hT1.2.1, hu.1 q, e1, hb, B7_neededStreets_55]
        rw [if_pos (fun z => q2 ((lenI_N (hes s).2.2).mp z)), e2, Nat.zero_add]
    · have hb : nd s = false := by
        cases h : nd s with
        | false => rfl
        | true => exact absurd ((hnd s).mp h).1 q
      obtain ⟨S2, e2, k3⟩ := ih (s + 1) g S x (by omega) (by omega) (by omega) hk
      refine ⟨S2, ?_, k3⟩
      rw [B7_neededStreets_15, cc]
      simp (disch := omega) only [if_pos, if_neg, ite_true, ite_false, not_true_eq_false, Bool.false_eq_true, not_false_eq_true, eq_self, obs, ob1, ob2, obx, opx, li_0, li_1, li_2, li_3, li_4, li_5, li_6, li_7, li_8, li_9, li_10, li_14, li_16, li_20, li_21, li_24, li_25, li_32, li_44, li_48, li_57, li_60, li_64, li_81, li_84, li_99, li_100, li_101, li_108, li_111, li_115, li_116, li_120, li_140, li_255, li_500, li_999, li_1000, li_1092, li_1176, li_10000, li_100000, li_1000000, li_N, li_M, nI_add, pk_mul, pk_sub, pk_div, pk_rem, k_mod, nI_clamp, nI_leI, nI_ltI, nI_eq, qin_nI, nI_m1, nN_lt, nN_lt2, nN_le, nN_le2, nN_eq, nN_eq2, qin_nN, Option.some.injEq, Prod.mk.injEq, Sum.inl.injEq, hT1.2.1, hu.2 q, hb, B7_neededStreets_55]
      rw [e2, Nat.zero_add]
theorem m_need_loop (hT : isM S0 114 0 T) (hv : vT T) (hes : ∀ s, isG (es s) T s ∧ gD 100 (es s) (T 0 3) (Ds s) ∧ Ds s (T 0 2) ≤ gU) (hnd : ∀ s, s < T 0 1 → (nd s = true ↔ (T 4 s = 0 ∧ Ds s (T 0 2) = gU))) (hn : 100000000 ≤ n) : ∀ j s f S x, s + j = T 0 1 → j < f → x ≤ s → kp [120, 121] S0 S → ∃ S2, B8_about_200 n f (nI x) (nI 1) (nI s) S = some (nI (x + cc nd j s), S2) ∧ kp [120, 121] S0 S2 := by
  have h20 := hv.2.2.1
  intro j
  induction j with
  | zero =>
    intro s f S x hs hf hx hk
    obtain ⟨g, rfl, hg⟩ := fuel_s hf
    have hT1 := isM_kp hT hk (by decide)
    have t1 : S 114 1 = nI (T 0 1) := hT1.2.1
    refine ⟨S, ?_, hk⟩
    rw [B8_about_200]
    simp (disch := omega) only [if_pos, if_neg, ite_true, ite_false, not_true_eq_false, Bool.false_eq_true, not_false_eq_true, eq_self, obs, ob1, ob2, obx, opx, li_0, li_1, li_2, li_3, li_4, li_5, li_6, li_7, li_8, li_9, li_10, li_14, li_16, li_20, li_21, li_24, li_25, li_32, li_44, li_48, li_57, li_60, li_64, li_81, li_84, li_99, li_100, li_101, li_108, li_111, li_115, li_116, li_120, li_140, li_255, li_500, li_999, li_1000, li_1092, li_1176, li_10000, li_100000, li_1000000, li_N, li_M, nI_add, pk_mul, pk_sub, pk_div, pk_rem, k_mod, nI_clamp, nI_leI, nI_ltI, nI_eq, qin_nI, nI_m1, nN_lt, nN_lt2, nN_le, nN_le2, nN_eq, nN_eq2, qin_nN, Option.some.injEq, Prod.mk.injEq, Sum.inl.injEq, t1, cc, Nat.add_zero]
  | succ j ih =>
    intro s f S x hs hf hx hk
    obtain ⟨g, rfl, hg⟩ := fuel_s hf
    have hT1 := isM_kp hT hk (by decide)
    have t1 : S 114 1 = nI (T 0 1) := hT1.2.1
    have t4 : S 114 (64 + s) = nI (T 4 s) := by
      have := (hT1.2.2.2.2 s (by omega)).2.2
      rw [Nat.zero_add] at this
      exact this
    have v5 := (hv.2.2.2.2.2.2.1 s (by omega)).2.2.2.2
    by_cases q : T 4 s = 0
    · obtain ⟨S1, e1, k1, -, -⟩ := m_bb (n := n) (but := s) kr_114 (by omega) hT1 hv (hes s).1 (hes s).2.1 hn
      have k2 : kp [120, 121] S0 S1 := kp_tr hk k1 (fun _ h => h) (fun _ h => h)
      have hbI : bI s = nI s := if_pos (by omega)
      rw [hbI] at e1
      by_cases q2 : Ds s (T 0 2) = gU
      · have hb : nd s = true := (hnd s (by omega)).mpr ⟨q, q2⟩
        obtain ⟨S2, e2, k3⟩ := ih (s + 1) g S1 (x + 1) (by omega) (by omega) (by omega) k2
        refine ⟨S2, ?_, k3⟩
        rw [B8_about_200, cc]
        simp (disch := omega) only [if_pos, if_neg, ite_true, ite_false, not_true_eq_false, Bool.false_eq_true, not_false_eq_true, eq_self, obs, ob1, ob2, obx, opx, li_0, li_1, li_2, li_3, li_4, li_5, li_6, li_7, li_8, li_9, li_10, li_14, li_16, li_20, li_21, li_24, li_25, li_32, li_44, li_48, li_57, li_60, li_64, li_81, li_84, li_99, li_100, li_101, li_108, li_111, li_115, li_116, li_120, li_140, li_255, li_500, li_999, li_1000, li_1092, li_1176, li_10000, li_100000, li_1000000, li_N, li_M, nI_add, pk_mul, pk_sub, pk_div, pk_rem, k_mod, nI_clamp, nI_leI, nI_ltI, nI_eq, qin_nI, nI_m1, nN_lt, nN_lt2, nN_le, nN_le2, nN_eq, nN_eq2, qin_nN, Option.some.injEq, Prod.mk.injEq, Sum.inl.injEq, t1, t4, q, e1, (lenI_N (hes s).2.2).mpr q2, hb, B8_about_249, B8_about_250]
        rw [e2, Nat.add_assoc]
      · have hb : nd s = false := by
          cases h : nd s with
          | false => rfl
          | true => exact absurd ((hnd s (by omega)).mp h).2 q2
        obtain ⟨S2, e2, k3⟩ := ih (s + 1) g S1 x (by omega) (by omega) (by omega) k2
        refine ⟨S2, ?_, k3⟩
        rw [B8_about_200, cc]
        simp (disch := omega) only [if_pos, if_neg, ite_true, ite_false, not_true_eq_false, Bool.false_eq_true, not_false_eq_true, eq_self, obs, ob1, ob2, obx, opx, li_0, li_1, li_2, li_3, li_4, li_5, li_6, li_7, li_8, li_9, li_10, li_14, li_16, li_20, li_21, li_24, li_25, li_32, li_44, li_48, li_57, li_60, li_64, li_81, li_84, li_99, li_100, li_101, li_108, li_111, li_115, li_116, li_120, li_140, li_255, li_500, li_999, li_1000, li_1092, li_1176, li_10000, li_100000, li_1000000, li_N, li_M, nI_add, pk_mul, pk_sub, pk_div, pk_rem, k_mod, nI_clamp, nI_leI, nI_ltI, nI_eq, qin_nI, nI_m1, nN_lt, nN_lt2, nN_le, nN_le2, nN_eq, nN_eq2, qin_nN, Option.some.injEq, Prod.mk.injEq, Sum.inl.injEq, t1, t4, q, e1, hb, B8_about_249, B8_about_250, Nat.add_zero]
        rw [if_pos (fun z => q2 ((lenI_N (hes s).2.2).mp z)), e2, Nat.zero_add]
    · have hb : nd s = false := by
        cases h : nd s with
        | false => rfl
        | true => exact absurd ((hnd s (by omega)).mp h).1 q
      obtain ⟨S2, e2, k3⟩ := ih (s + 1) g S x (by omega) (by omega) (by omega) hk
      refine ⟨S2, ?_, k3⟩
      rw [B8_about_200, cc]
      simp (disch := omega) only [if_pos, if_neg, ite_true, ite_false, not_true_eq_false, Bool.false_eq_true, not_false_eq_true, eq_self, obs, ob1, ob2, obx, opx, li_0, li_1, li_2, li_3, li_4, li_5, li_6, li_7, li_8, li_9, li_10, li_14, li_16, li_20, li_21, li_24, li_25, li_32, li_44, li_48, li_57, li_60, li_64, li_81, li_84, li_99, li_100, li_101, li_108, li_111, li_115, li_116, li_120, li_140, li_255, li_500, li_999, li_1000, li_1092, li_1176, li_10000, li_100000, li_1000000, li_N, li_M, nI_add, pk_mul, pk_sub, pk_div, pk_rem, k_mod, nI_clamp, nI_leI, nI_ltI, nI_eq, qin_nI, nI_m1, nN_lt, nN_lt2, nN_le, nN_le2, nN_eq, nN_eq2, qin_nN, Option.some.injEq, Prod.mk.injEq, Sum.inl.injEq, t1, t4, q, hb, B8_about_249, B8_about_250, Nat.add_zero]
      rw [e2, Nat.zero_add]
end QNEED
theorem cc_0 {P : Nat → Bool} : ∀ j s, (∀ i, s ≤ i → i < s + j → P i = false) → cc P j s = 0 := by
  intro j
  induction j with
  | zero => exact fun _ _ => rfl
  | succ j ih =>
    intro s h
    rw [cc, h s (by omega) (by omega), ih (s + 1) (fun i h1 h2 => h i (by omega) (by omega))]
    simp
theorem k_about {S : qSt} {n : Nat} (h : Rel S) (hn : 100000000 ≤ n) (x : Int32) : okc (CC (FL_about n x S) (F8_about n x)) := by
  obtain ⟨L, c, T, hc, H, F, K, hR, rm, ok⟩ := h
  by_cases hx : x = nI 7
  · subst hx
    obtain ⟨-, -, hv, -⟩ := id ok
    have h20 := hv.2.2.1
    obtain ⟨e, D, p, kk, hG, hD, hp, he, f1, f2, f3, hDU⟩ := all_ex hv 9999
    obtain ⟨es, Ds, hes⟩ := buts_ex hv
    obtain ⟨nd, hnd⟩ := bool_ex (fun s => uP p kk (T 1 s) (T 2 s) ∧ Ds s (T 0 2) = gU)
    have hT := hR.2.1
    have hin : ∀ S, F8_in (nI 7).toInt64 0 7 S = nI 1 := fun S => by
      rw [l64_0, l64_7]
      exact in_y S (by omega) (by omega) (by omega)
    unfold FL_about
    refine okc_q (r := nI (0 + cc nd (T 0 1) 0)) rm ?_ (fun S rm => ?_) ok
    · obtain ⟨S1, e1, k1, r1⟩ := c_find (o := 103) (n := n) hT (Or.inl (by omega)) hv (by omega) hG (by omega) hD hp (by omega)
      have hT1 := isT_ap hT (Or.inl (by omega)) k1
      obtain ⟨S2, e2, k2⟩ := c_need_loop (n := n) hT1 hv r1 f1 f3 hes hnd (by omega) (T 0 1) 0 n S1 0 (by omega) (by omega) (by omega) kp_rfl
      refine ⟨S2, ?_, RC_kp (RC_kp hR k1 (by simp)) k2 (by simp), kC_tr (kC_kp k1 (by simp)) (kC_kp k2 (by simp))⟩
      unfold F7_about F7_neededStreets
      simp (disch := omega) only [if_pos, if_neg, ite_true, ite_false, not_true_eq_false, Bool.false_eq_true, not_false_eq_true, eq_self, obs, ob1, ob2, obx, opx, li_0, li_1, li_2, li_3, li_4, li_5, li_6, li_7, li_8, li_9, li_10, li_14, li_16, li_20, li_21, li_24, li_25, li_32, li_44, li_48, li_57, li_60, li_64, li_81, li_84, li_99, li_100, li_101, li_108, li_111, li_115, li_116, li_120, li_140, li_255, li_500, li_999, li_1000, li_1092, li_1176, li_10000, li_100000, li_1000000, li_N, li_M, nI_add, pk_mul, pk_sub, pk_div, pk_rem, k_mod, nI_clamp, nI_leI, nI_ltI, nI_eq, qin_nI, nI_m1, nN_lt, nN_lt2, nN_le, nN_le2, nN_eq, nN_eq2, qin_nN, Option.some.injEq, Prod.mk.injEq, Sum.inl.injEq, e1, e2]
    · obtain ⟨r1, r2, r3, r4⟩ := rq rm 0
      obtain ⟨S1, e1, k1, -, -⟩ := m_bb (n := n) kr_114 (by omega) r4 hv hG hD hn
      obtain ⟨g1, g2, g3⟩ := m_keep2 r1 k1
      rw [bI_N] at e1
      by_cases q : D (T 0 2) = gU
      · have hk0 : kk = 0 := by
          rcases hp with ⟨-, h⟩ | ⟨h, -⟩
          · exact h
          · exact absurd q h
        have hz : cc nd (T 0 1) 0 = 0 := cc_0 _ _ (fun i _ _ => by
          cases h : nd i with
          | false => rfl
          | true =>
            obtain ⟨⟨z, hz, -⟩, -⟩ := (hnd i).mp h
            omega)
        refine ⟨S1, ?_, g1, kM_tr r2 g2, g3.trans r3⟩
        have hT1 := g1.2.1
        have t1 : S1 114 1 = nI (T 0 1) := hT1.2.1
        have hB : ∃ g, n = g + 1 := ⟨n - 1, by omega⟩
        have last : B8_about_200 n n (nI 0) (nI 0) (nI 0) S1 = some (nI 0, S1) := by
          obtain ⟨g, hg⟩ := hB
          rw [show B8_about_200 n n = B8_about_200 n (g + 1) by rw [← hg], B8_about_200]
          simp (disch := omega) only [if_pos, if_neg, ite_true, ite_false, not_true_eq_false, Bool.false_eq_true, not_false_eq_true, eq_self, obs, ob1, ob2, obx, opx, li_0, li_1, li_2, li_3, li_4, li_5, li_6, li_7, li_8, li_9, li_10, li_14, li_16, li_20, li_21, li_24, li_25, li_32, li_44, li_48, li_57, li_60, li_64, li_81, li_84, li_99, li_100, li_101, li_108, li_111, li_115, li_116, li_120, li_140, li_255, li_500, li_999, li_1000, li_1092, li_1176, li_10000, li_100000, li_1000000, li_N, li_M, nI_add, pk_mul, pk_sub, pk_div, pk_rem, k_mod, nI_clamp, nI_leI, nI_ltI, nI_eq, qin_nI, nI_m1, nN_lt, nN_lt2, nN_le, nN_le2, nN_eq, nN_eq2, qin_nN, Option.some.injEq, Prod.mk.injEq, Sum.inl.injEq]
          split <;> rfl
        unfold F8_about B8_about_18 B8_about_196
        simp (disch := omega) only [if_pos, if_neg, ite_true, ite_false, not_true_eq_false, Bool.false_eq_true, not_false_eq_true, eq_self, obs, ob1, ob2, obx, opx, li_0, li_1, li_2, li_3, li_4, li_5, li_6, li_7, li_8, li_9, li_10, li_14, li_16, li_20, li_21, li_24, li_25, li_32, li_44, li_48, li_57, li_60, li_64, li_81, li_84, li_99, li_100, li_101, li_108, li_111, li_115, li_116, li_120, li_140, li_255, li_500, li_999, li_1000, li_1092, li_1176, li_10000, li_100000, li_1000000, li_N, li_M, nI_add, pk_mul, pk_sub, pk_div, pk_rem, k_mod, nI_clamp, nI_leI, nI_ltI, nI_eq, qin_nI, nI_m1, nN_lt, nN_lt2, nN_le, nN_le2, nN_eq, nN_eq2, qin_nN, Option.some.injEq, Prod.mk.injEq, Sum.inl.injEq, hin, m_ref_0, e1, (lenI_N hDU).mpr q, last, hz, Nat.add_zero]
      · obtain ⟨S2, e2, k2⟩ := m_need_loop (n := n) (es := es) (Ds := Ds) (nd := nd) g1.2.1 hv hes (fun s hs => by
          rw [hnd s]
          constructor
          · exact fun z => ⟨uP_open hv hG hs hp z.1, z.2⟩
          · intro z
            refine ⟨Classical.byContradiction fun w => ?_, z.2⟩
            exact rem_fin hv hG (by omega) (hes s).1 (hes s).2.1 hp w q hDU z.2) hn (T 0 1) 0 n S1 0 (by omega) (by omega) (by omega) kp_rfl
        obtain ⟨i1, i2, i3⟩ := m_keep2 g1 k2
        refine ⟨S2, ?_, i1, kM_tr (kM_tr r2 g2) i2, (i3.trans g3).trans r3⟩
        unfold F8_about B8_about_18 B8_about_196
        simp (disch := omega) only [if_pos, if_neg, ite_true, ite_false, not_true_eq_false, Bool.false_eq_true, not_false_eq_true, eq_self, obs, ob1, ob2, obx, opx, li_0, li_1, li_2, li_3, li_4, li_5, li_6, li_7, li_8, li_9, li_10, li_14, li_16, li_20, li_21, li_24, li_25, li_32, li_44, li_48, li_57, li_60, li_64, li_81, li_84, li_99, li_100, li_101, li_108, li_111, li_115, li_116, li_120, li_140, li_255, li_500, li_999, li_1000, li_1092, li_1176, li_10000, li_100000, li_1000000, li_N, li_M, nI_add, pk_mul, pk_sub, pk_div, pk_rem, k_mod, nI_clamp, nI_leI, nI_ltI, nI_eq, qin_nI, nI_m1, nN_lt, nN_lt2, nN_le, nN_le2, nN_eq, nN_eq2, qin_nN, Option.some.injEq, Prod.mk.injEq, Sum.inl.injEq, hin, m_ref_0, e1]
        rw [if_neg (fun z => q ((lenI_N hDU).mp z))]
        exact e2
  · exact k_about0 hR rm ok hn hx
