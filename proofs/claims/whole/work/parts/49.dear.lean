/-! DEAREST, SAVES, MIDDLE -/
/-- the dearest, found so far f at m -/
def dr (P : Nat → Bool) (B : Nat → Nat) : Nat → Nat → Int32 → Nat → Int32
  | 0, _, f, _ => f
  | j + 1, s, f, m => if P s = true then (if m < B s then dr P B j (s + 1) (nI s) (B s) else dr P B j (s + 1) f m) else dr P B j (s + 1) f m
theorem dr_end {P : Nat → Bool} {B : Nat → Nat} : ∀ j s f m, (∀ i, B i ≤ m) → dr P B j s f m = f := by
  intro j
  induction j with
  | zero => exact fun _ _ _ _ => rfl
  | succ j ih =>
    intro s f m h
    have := h s
    have q : ¬ m < B s := by omega
    rw [dr]
    by_cases z : P s = true
    · rw [if_pos z, if_neg q, ih _ _ _ h]
    · rw [if_neg z, ih _ _ _ h]
def byL (x : Nat) : Nat := if x = gU then 1000000 else x / 100
theorem gD_pos {e : Gr} {t c : Nat} {D : Nat → Nat} (h : gD 100 e t D) (hc : c < 9) (hct : c ≠ t) (hU : D c ≠ gU) : 100 < D c := by
  obtain ⟨b, hb, hD⟩ := gD_succ h hc hU hct
  omega
section QDR
variable {S0 : qSt} {T : Tn} {n kk : Nat} {p : Nat → Nat} {es : Nat → Gr} {Ds : Nat → Nat → Nat} {nd : Nat → Bool}
theorem c_dr_loop (hT : isT S0 8 T) (hv : vT T) (hR : isR S0 103 p kk) (f1 : kk ≤ 9) (f3 : ∀ i j, i < kk → j < kk → p i = p j → i = j) (hes : ∀ s, isG (es s) T s ∧ gD 100 (es s) (T 0 3) (Ds s) ∧ Ds s (T 0 2) ≤ gU) (hnd : ∀ s, nd s = true ↔ uP p kk (T 1 s) (T 2 s)) (hn : 100 ≤ n) : ∀ j s f S v m, s + j = T 0 1 → j < f → m < 1000000 → (v = nN → m = 0) → kp pW S0 S → ∃ S2, B7_dearest_19 n f v (nI m) (nI s) S = some (dr nd (fun s => byL (Ds s (T 0 2))) j s v m, S2) ∧ kp pW S0 S2 := by
  have h20 := hv.2.2.1
  have h9 := hv.2.1
  have hst := hv.2.2.2.1
  have hgo := hv.2.2.2.2.1
  have hsg := hv.2.2.2.2.2.1
  have hU : gU = 1000000 := rfl
  intro j
  induction j with
  | zero =>
    intro s f S v m hs hf hm hvm hk
    obtain ⟨g, rfl, hg⟩ := fuel_s hf
    have hT1 := isT_kp hT hk (by decide) (by decide) (by decide) (by decide) (by decide)
    refine ⟨S, ?_, hk⟩
    rw [B7_dearest_19]
    simp (disch := omega) only [if_pos, if_neg, ite_true, ite_false, not_true_eq_false, Bool.false_eq_true, not_false_eq_true, eq_self, obs, ob1, ob2, obx, opx, li_0, li_1, li_2, li_3, li_4, li_5, li_6, li_7, li_8, li_9, li_10, li_14, li_16, li_20, li_21, li_24, li_25, li_32, li_44, li_48, li_57, li_60, li_64, li_81, li_84, li_99, li_100, li_101, li_108, li_111, li_115, li_116, li_120, li_140, li_255, li_500, li_999, li_1000, li_1092, li_1176, li_10000, li_100000, li_1000000, li_N, li_M, nI_add, pk_mul, pk_sub, pk_div, pk_rem, k_mod, nI_clamp, nI_leI, nI_ltI, nI_eq, qin_nI, nI_m1, nN_lt, nN_lt2, nN_le, nN_le2, nN_eq, nN_eq2, qin_nN, Option.some.injEq, Prod.mk.injEq, Sum.inl.injEq, hT1.2.1, dr]
  | succ j ih =>
    intro s f S v m hs hf hm hvm hk
    obtain ⟨g, rfl, hg⟩ := fuel_s hf
    have hT1 := isT_kp hT hk (by decide) (by decide) (by decide) (by decide) (by decide)
    have hR1 := isR_kp hR hk (by decide) (by decide) (by decide)
    have hu := c_uses (s := s) hT1 hv (by omega) hR1 f1 f3 (by omega)
    by_cases q : uP p kk (T 1 s) (T 2 s)
    · have hb : nd s = true := (hnd s).mpr q
      obtain ⟨S1, e1, k1⟩ := c_lw (n := n) hT1 hv (show s < T 0 1 by omega) (hes s).1 (hes s).2.1 hn
      have k2 : kp pW S0 S1 := kp_tr hk k1 (fun _ h => h) (fun _ h => h)
      by_cases q2 : Ds s (T 0 2) = gU
      · refine ⟨S1, ?_, k2⟩
        have hby : byL (Ds s (T 0 2)) = 1000000 := if_pos q2
        have hall : ∀ i, (fun s => byL (Ds s (T 0 2))) i ≤ 1000000 := fun i => by
          dsimp only
          unfold byL
          have := (hes i).2.2
          split <;> omega
        rw [B7_dearest_19, dr]
        simp (disch := omega) only [if_pos, if_neg, ite_true, ite_false, not_true_eq_false, Bool.false_eq_true, not_false_eq_true, eq_self, obs, ob1, ob2, obx, opx, li_0, li_1, li_2, li_3, li_4, li_5, li_6, li_7, li_8, li_9, li_10, li_14, li_16, li_20, li_21, li_24, li_25, li_32, li_44, li_48, li_57, li_60, li_64, li_81, li_84, li_99, li_100, li_101, li_108, li_111, li_115, li_116, li_120, li_140, li_255, li_500, li_999, li_1000, li_1092, li_1176, li_10000, li_100000, li_1000000, li_N, li_M, nI_add, pk_mul, pk_sub, pk_div, pk_rem, k_mod, nI_clamp, nI_leI, nI_ltI, nI_eq, qin_nI, nI_m1, nN_lt, nN_lt2, nN_le, nN_le2, nN_eq, nN_eq2, qin_nN, Option.some.injEq, Prod.mk.injEq, Sum.inl.injEq, hT1.2.1, hu.1 q, e1, (lenI_N (hes s).2.2).mpr q2, hb, hby]
        rw [dr_end _ _ _ _ hall]
        exact ⟨rfl, trivial⟩
      · have hpos := gD_pos (hes s).2.1 (by omega) hsg q2
        have hle := (hes s).2.2
        have hby : byL (Ds s (T 0 2)) = Ds s (T 0 2) / 100 := if_neg q2
        have hlen : lenI (Ds s (T 0 2)) = nI (Ds s (T 0 2) / 100) := if_neg q2
        have hstep : B7_dearest_19 n (g + 1) v (nI m) (nI s) S = (if m < Ds s (T 0 2) / 100 then B7_dearest_19 n g (nI s) (nI (Ds s (T 0 2) / 100)) (nI (s + 1)) S1 else B7_dearest_19 n g v (nI m) (nI (s + 1)) S1) := by
          rw [B7_dearest_19]
          simp (disch := omega) only [if_pos, if_neg, ite_true, ite_false, not_true_eq_false, Bool.false_eq_true, not_false_eq_true, eq_self, obs, ob1, ob2, obx, opx, li_0, li_1, li_2, li_3, li_4, li_5, li_6, li_7, li_8, li_9, li_10, li_14, li_16, li_20, li_21, li_24, li_25, li_32, li_44, li_48, li_57, li_60, li_64, li_81, li_84, li_99, li_100, li_101, li_108, li_111, li_115, li_116, li_120, li_140, li_255, li_500, li_999, li_1000, li_1092, li_1176, li_10000, li_100000, li_1000000, li_N, li_M, nI_add, pk_mul, pk_sub, pk_div, pk_rem, k_mod, nI_clamp, nI_leI, nI_ltI, nI_eq, qin_nI, nI_m1, nN_lt, nN_lt2, nN_le, nN_le2, nN_eq, nN_eq2, qin_nN, Option.some.injEq, Prod.mk.injEq, Sum.inl.injEq, hT1.2.1, hu.1 q, e1, hlen, B7_dearest_75, B7_dearest_80]
          by_cases z : v = nN
          · rw [if_pos z, if_pos (by have := hvm z; omega)]
          · rw [if_neg z]
            by_cases w : m < Ds s (T 0 2) / 100
            · rw [if_pos w, if_neg (by omega)]
            · rw [if_neg w, if_pos (by omega)]
        rw [hstep, dr, if_pos hb, hby]
        by_cases w : m < Ds s (T 0 2) / 100
        · rw [if_pos w, if_pos w]
          exact ih (s + 1) g S1 _ _ (by omega) (by omega) (by omega) (fun z => (nN_ne (by omega) z).elim) k2
        · rw [if_neg w, if_neg w]
          exact ih (s + 1) g S1 _ _ (by omega) (by omega) hm hvm k2
    · have hb : nd s = false := by
        cases h : nd s with
        | false => rfl
        | true => exact absurd ((hnd s).mp h) q
      obtain ⟨S2, e2, k3⟩ := ih (s + 1) g S v m (by omega) (by omega) hm hvm hk
      refine ⟨S2, ?_, k3⟩
      rw [B7_dearest_19, dr]
      simp (disch := omega) only [if_pos, if_neg, ite_true, ite_false, not_true_eq_false, Bool.false_eq_true, not_false_eq_true, eq_self, obs, ob1, ob2, obx, opx, li_0, li_1, li_2, li_3, li_4, li_5, li_6, li_7, li_8, li_9, li_10, li_14, li_16, li_20, li_21, li_24, li_25, li_32, li_44, li_48, li_57, li_60, li_64, li_81, li_84, li_99, li_100, li_101, li_108, li_111, li_115, li_116, li_120, li_140, li_255, li_500, li_999, li_1000, li_1092, li_1176, li_10000, li_100000, li_1000000, li_N, li_M, nI_add, pk_mul, pk_sub, pk_div, pk_rem, k_mod, nI_clamp, nI_leI, nI_ltI, nI_eq, qin_nI, nI_m1, nN_lt, nN_lt2, nN_le, nN_le2, nN_eq, nN_eq2, qin_nN, Option.some.injEq, Prod.mk.injEq, Sum.inl.injEq, hT1.2.1, hu.2 q, hb, B7_dearest_80]
      exact e2
theorem m_dr_loop (hT : isM S0 114 0 T) (hv : vT T) (hR : isRM S0 p kk) (f1 : kk ≤ 9) (f2 : ∀ i, i < kk → p i < 9) (f3 : ∀ i j, i < kk → j < kk → p i = p j → i = j) (hes : ∀ s, isG (es s) T s ∧ gD 100 (es s) (T 0 3) (Ds s) ∧ Ds s (T 0 2) ≤ gU) (hnd : ∀ s, nd s = true ↔ uP p kk (T 1 s) (T 2 s)) (hop : ∀ s, s < T 0 1 → uP p kk (T 1 s) (T 2 s) → T 4 s = 0) (hn : 100000000 ≤ n) : ∀ j s f S v m, s + j = T 0 1 → j < f → m ≤ 1000000 → kp [120, 121] S0 S → ∃ S2, B8_dearest_20 n f v (nI m) (nI s) S = some (dr nd (fun s => byL (Ds s (T 0 2))) j s v m, S2) ∧ kp [120, 121] S0 S2 := by
  have h20 := hv.2.2.1
  have hU : gU = 1000000 := rfl
  intro j
  induction j with
  | zero =>
    intro s f S v m hs hf hm hk
    obtain ⟨g, rfl, hg⟩ := fuel_s hf
    have hT1 := isM_kp hT hk (by decide)
    have t1 : S 114 1 = nI (T 0 1) := hT1.2.1
    refine ⟨S, ?_, hk⟩
    rw [B8_dearest_20]
    simp (disch := omega) only [if_pos, if_neg, ite_true, ite_false, not_true_eq_false, Bool.false_eq_true, not_false_eq_true, eq_self, obs, ob1, ob2, obx, opx, li_0, li_1, li_2, li_3, li_4, li_5, li_6, li_7, li_8, li_9, li_10, li_14, li_16, li_20, li_21, li_24, li_25, li_32, li_44, li_48, li_57, li_60, li_64, li_81, li_84, li_99, li_100, li_101, li_108, li_111, li_115, li_116, li_120, li_140, li_255, li_500, li_999, li_1000, li_1092, li_1176, li_10000, li_100000, li_1000000, li_N, li_M, nI_add, pk_mul, pk_sub, pk_div, pk_rem, k_mod, nI_clamp, nI_leI, nI_ltI, nI_eq, qin_nI, nI_m1, nN_lt, nN_lt2, nN_le, nN_le2, nN_eq, nN_eq2, qin_nN, Option.some.injEq, Prod.mk.injEq, Sum.inl.injEq, t1, dr]
  | succ j ih =>
    intro s f S v m hs hf hm hk
    obtain ⟨g, rfl, hg⟩ := fuel_s hf
    have hT1 := isM_kp hT hk (by decide)
    have t1 : S 114 1 = nI (T 0 1) := hT1.2.1
    have t4 : S 114 (64 + s) = nI (T 4 s) := by
      have := (hT1.2.2.2.2 s (by omega)).2.2
      rw [Nat.zero_add] at this
      exact this
    have v5 := (hv.2.2.2.2.2.2.1 s (by omega)).2.2.2.2
    have hR1 : isRM S p kk := by
      unfold isRM
      rw [hk 111 (by decide), hk 122 (by decide)]
      exact hR
    have hu := m_iw (n := n) (s := s) kr_114 hT1 hv hR1 f1 f2 f3 (by omega) (by omega)
    by_cases q : uP p kk (T 1 s) (T 2 s)
    · have hb : nd s = true := (hnd s).mpr q
      have h0 := hop s (by omega) q
      obtain ⟨S1, e1, k1, -, -⟩ := m_bb (n := n) (but := s) kr_114 (by omega) hT1 hv (hes s).1 (hes s).2.1 hn
      have k2 : kp [120, 121] S0 S1 := kp_tr hk k1 (fun _ h => h) (fun _ h => h)
      have hbI : bI s = nI s := if_pos (by omega)
      rw [hbI] at e1
      have hle := (hes s).2.2
      have hBle : byL (Ds s (T 0 2)) ≤ 1000000 := by
        unfold byL
        split <;> omega
      have hstep : B8_dearest_20 n (g + 1) v (nI m) (nI s) S = (if m < byL (Ds s (T 0 2)) then B8_dearest_20 n g (nI s) (nI (byL (Ds s (T 0 2)))) (nI (s + 1)) S1 else B8_dearest_20 n g v (nI m) (nI (s + 1)) S1) := by
        rw [B8_dearest_20]
        simp (disch := omega) only [if_pos, if_neg, ite_true, ite_false, not_true_eq_false, Bool.false_eq_true, not_false_eq_true, eq_self, obs, ob1, ob2, obx, opx, li_0, li_1, li_2, li_3, li_4, li_5, li_6, li_7, li_8, li_9, li_10, li_14, li_16, li_20, li_21, li_24, li_25, li_32, li_44, li_48, li_57, li_60, li_64, li_81, li_84, li_99, li_100, li_101, li_108, li_111, li_115, li_116, li_120, li_140, li_255, li_500, li_999, li_1000, li_1092, li_1176, li_10000, li_100000, li_1000000, li_N, li_M, nI_add, pk_mul, pk_sub, pk_div, pk_rem, k_mod, nI_clamp, nI_leI, nI_ltI, nI_eq, qin_nI, nI_m1, nN_lt, nN_lt2, nN_le, nN_le2, nN_eq, nN_eq2, qin_nN, Option.some.injEq, Prod.mk.injEq, Sum.inl.injEq, t1, t4, h0, hu.1 q, e1]
        have hlen : (if ¬ lenI (Ds s (T 0 2)) = nN then B8_dearest_80 n (B8_dearest_20 n g) v (nI m) (nI s) (lenI (Ds s (T 0 2))) S1 else B8_dearest_80 n (B8_dearest_20 n g) v (nI m) (nI s) (nI 1000000) S1) = B8_dearest_80 n (B8_dearest_20 n g) v (nI m) (nI s) (nI (byL (Ds s (T 0 2)))) S1 := by
          unfold byL lenI
          by_cases z : Ds s (T 0 2) = gU
          · rw [if_pos z, if_neg (by simp), if_pos z]
          · rw [if_neg z, if_pos (fun w => nN_ne (by omega) w), if_neg z]
        rw [hlen]
        unfold B8_dearest_80 B8_dearest_93 B8_dearest_106 B8_dearest_107
        simp (disch := omega) only [if_pos, if_neg, ite_true, ite_false, not_true_eq_false, Bool.false_eq_true, not_false_eq_true, eq_self, obs, ob1, ob2, obx, opx, li_0, li_1, li_2, li_3, li_4, li_5, li_6, li_7, li_8, li_9, li_10, li_14, li_16, li_20, li_21, li_24, li_25, li_32, li_44, li_48, li_57, li_60, li_64, li_81, li_84, li_99, li_100, li_101, li_108, li_111, li_115, li_116, li_120, li_140, li_255, li_500, li_999, li_1000, li_1092, li_1176, li_10000, li_100000, li_1000000, li_N, li_M, nI_add, pk_mul, pk_sub, pk_div, pk_rem, k_mod, nI_clamp, nI_leI, nI_ltI, nI_eq, qin_nI, nI_m1, nN_lt, nN_lt2, nN_le, nN_le2, nN_eq, nN_eq2, qin_nN, Option.some.injEq, Prod.mk.injEq, Sum.inl.injEq]
        by_cases w : m < byL (Ds s (T 0 2))
        · simp (disch := omega) only [if_pos, if_neg, ite_true, ite_false, not_true_eq_false, Bool.false_eq_true, not_false_eq_true, eq_self, obs, ob1, ob2, obx, opx, li_0, li_1, li_2, li_3, li_4, li_5, li_6, li_7, li_8, li_9, li_10, li_14, li_16, li_20, li_21, li_24, li_25, li_32, li_44, li_48, li_57, li_60, li_64, li_81, li_84, li_99, li_100, li_101, li_108, li_111, li_115, li_116, li_120, li_140, li_255, li_500, li_999, li_1000, li_1092, li_1176, li_10000, li_100000, li_1000000, li_N, li_M, nI_add, pk_mul, pk_sub, pk_div, pk_rem, k_mod, nI_clamp, nI_leI, nI_ltI, nI_eq, qin_nI, nI_m1, nN_lt, nN_lt2, nN_le, nN_le2, nN_eq, nN_eq2, qin_nN, Option.some.injEq, Prod.mk.injEq, Sum.inl.injEq]
        · simp (disch := omega) only [if_pos, if_neg, ite_true, ite_false, not_true_eq_false, Bool.false_eq_true, not_false_eq_true, eq_self, obs, ob1, ob2, obx, opx, li_0, li_1, li_2, li_3, li_4, li_5, li_6, li_7, li_8, li_9, li_10, li_14, li_16, li_20, li_21, li_24, li_25, li_32, li_44, li_48, li_57, li_60, li_64, li_81, li_84, li_99, li_100, li_101, li_108, li_111, li_115, li_116, li_120, li_140, li_255, li_500, li_999, li_1000, li_1092, li_1176, li_10000, li_100000, li_1000000, li_N, li_M, nI_add, pk_mul, pk_sub, pk_div, pk_rem, k_mod, nI_clamp, nI_leI, nI_ltI, nI_eq, qin_nI, nI_m1, nN_lt, nN_lt2, nN_le, nN_le2, nN_eq, nN_eq2, qin_nN, Option.some.injEq, Prod.mk.injEq, Sum.inl.injEq]
      rw [hstep, dr, if_pos hb]
      by_cases w : m < byL (Ds s (T 0 2))
      · rw [if_pos w, if_pos w]
        exact ih (s + 1) g S1 _ _ (by omega) (by omega) hBle k2
      · rw [if_neg w, if_neg w]
        exact ih (s + 1) g S1 _ _ (by omega) (by omega) hm k2
    · have hb : nd s = false := by
        cases h : nd s with
        | false => rfl
        | true => exact absurd ((hnd s).mp h) q
      obtain ⟨S2, e2, k3⟩ := ih (s + 1) g S v m (by omega) (by omega) hm hk
      refine ⟨S2, ?_, k3⟩
      rw [B8_dearest_20, dr]
      simp (disch := omega) only [if_pos, if_neg, ite_true, ite_false, not_true_eq_false, Bool.false_eq_true, not_false_eq_true, eq_self, obs, ob1, ob2, obx, opx, li_0, li_1, li_2, li_3, li_4, li_5, li_6, li_7, li_8, li_9, li_10, li_14, li_16, li_20, li_21, li_24, li_25, li_32, li_44, li_48, li_57, li_60, li_64, li_81, li_84, li_99, li_100, li_101, li_108, li_111, li_115, li_116, li_120, li_140, li_255, li_500, li_999, li_1000, li_1092, li_1176, li_10000, li_100000, li_1000000, li_N, li_M, nI_add, pk_mul, pk_sub, pk_div, pk_rem, k_mod, nI_clamp, nI_leI, nI_ltI, nI_eq, qin_nI, nI_m1, nN_lt, nN_lt2, nN_le, nN_le2, nN_eq, nN_eq2, qin_nN, Option.some.injEq, Prod.mk.injEq, Sum.inl.injEq, t1, t4, hu.2 q, hb, B8_dearest_107]
      by_cases z : T 4 s = 0
      · rw [if_neg (by simpa using z)]
        exact e2
      · rw [if_pos z]
        exact e2
end QDR
theorem k_dearest {S : qSt} {n : Nat} (h : Rel S) (hn : 100000000 ≤ n) : okc (ob2 (F7_dearest n S) fun r2 S3 => ob2 (F8_dearest n S3) fun r5 S6 => if r2 = r5 then (some S6) else (none)) := by
  obtain ⟨L, c, T, hc, H, F, K, hR, rm, ok⟩ := h
  have hv := ok.2.2.1
  have h20 := hv.2.2.1
  obtain ⟨e, D, p, kk, hG, hD, hp, he, f1, f2, f3, hDU⟩ := all_ex hv 9999
  obtain ⟨es, Ds, hes⟩ := buts_ex hv
  obtain ⟨nd, hnd⟩ := bool_ex (fun s => uP p kk (T 1 s) (T 2 s))
  obtain ⟨S1, e1, k1, r1⟩ := c_find (o := 103) (n := n) hR.2.1 (Or.inl (by omega)) hv (by omega) hG (by omega) hD hp (by omega)
  have hT1 := isT_ap hR.2.1 (Or.inl (by omega)) k1
  obtain ⟨S2, e2, k2⟩ := c_dr_loop (n := n) hT1 hv r1 f1 f3 hes hnd (by omega) (T 0 1) 0 n S1 nN 0 (by omega) (by omega) (by omega) (fun _ => rfl) kp_rfl
  have kC2 : kC S S2 := kC_tr (kC_kp k1 (by simp)) (kC_kp k2 (by simp))
  have rc2 := RC_kp (RC_kp hR k1 (by simp)) k2 (by simp)
  have rm2 := RM_kC rm kC2
  obtain ⟨S3, e3, k3, k3', r3, -⟩ := m_lw (n := n) kr_114 (by omega) rm2.2.1 hv hG hD hp hn
  obtain ⟨g1, g2, g3⟩ := m_keep rm2 k3 k3'
  rw [bI_N] at e3
  obtain ⟨S4, e4, k4⟩ := m_dr_loop (n := n) g1.2.1 hv r3 f1 f2 f3 hes hnd (fun s hs u => uP_open hv hG hs hp u) hn (T 0 1) 0 n S3 nN 0 (by omega) (by omega) (by omega) kp_rfl
  obtain ⟨i1, i2, i3⟩ := m_keep2 g1 k4
  refine ⟨S4, ?_, L, c, T, hc, H, F, K, RC_kM rc2 (kM_tr g2 i2), i1, ok⟩
  unfold F7_dearest F8_dearest
  simp (disch := omega) only [if_pos, if_neg, ite_true, ite_false, not_true_eq_false, Bool.false_eq_true, not_false_eq_true, eq_self, obs, ob1, ob2, obx, opx, li_0, li_1, li_2, li_3, li_4, li_5, li_6, li_7, li_8, li_9, li_10, li_14, li_16, li_20, li_21, li_24, li_25, li_32, li_44, li_48, li_57, li_60, li_64, li_81, li_84, li_99, li_100, li_101, li_108, li_111, li_115, li_116, li_120, li_140, li_255, li_500, li_999, li_1000, li_1092, li_1176, li_10000, li_100000, li_1000000, li_N, li_M, nI_add, pk_mul, pk_sub, pk_div, pk_rem, k_mod, nI_clamp, nI_leI, nI_ltI, nI_eq, qin_nI, nI_m1, nN_lt, nN_lt2, nN_le, nN_le2, nN_eq, nN_eq2, qin_nN, Option.some.injEq, Prod.mk.injEq, Sum.inl.injEq, e1, e2, e3, e4]
