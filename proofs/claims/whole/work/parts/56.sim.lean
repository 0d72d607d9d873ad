/-! SIMULATE -/
def lcg (x : Int64) : Int64 := x * 6364136223846793005 + 1442695040888963407
def shK (x : Int64) : Nat := x.toUInt64.toNat / 8589934592
theorem shK_lt (x : Int64) : shK x < 2 ^ 31 := by
  unfold shK
  have := x.toUInt64.toNat_lt
  omega
theorem sh_l (x : Int64) : (x.toUInt64 >>> ((33 : Int32).toInt64.toUInt64 &&& Int64.toUInt64 63)).toInt64 = lN (shK x) := by
  have hu : ((33 : Int32).toInt64.toUInt64 &&& Int64.toUInt64 63) = 33 := by decide +kernel
  rw [hu]
  have hk := shK_lt x
  have h2 : x.toUInt64 >>> 33 = UInt64.ofNat (shK x) := by
    refine UInt64.toNat_inj.mp ?_
    have h1 : (UInt64.ofNat (shK x)).toNat = shK x := by
      show (BitVec.ofNat 64 _).toNat = _
      rw [BitVec.toNat_ofNat, Nat.mod_eq_of_lt (by omega)]
    have h3 : (33 : UInt64).toNat = 33 := rfl
    rw [h1, UInt64.toNat_shiftRight, h3, Nat.shiftRight_eq_div_pow]
    rfl
  rw [h2]
  rfl
theorem l2i_N {k : Nat} (h : k < 2 ^ 31) : (lN k).toInt32 = nI k := by rw [← nI_l h, lg_l2i_i2l]
/-- the streets that are closed on a day -/
def dayT (T0 : Tn) : Nat → Nat → Tn → Int64 → Tn
  | 0, _, T, _ => T
  | j + 1, s, T, x => if T0 4 s = 0 then dayT T0 j (s + 1) (tU T 4 s (if shK (lcg x) % 4 = 0 then 1 else 0)) (lcg x) else dayT T0 j (s + 1) T x
def dayX (T0 : Tn) : Nat → Nat → Int64 → Int64
  | 0, _, x => x
  | j + 1, s, x => if T0 4 s = 0 then dayX T0 j (s + 1) (lcg x) else dayX T0 j (s + 1) x
theorem lcg_r (x : Int64) : x * 6364136223846793005 + 1442695040888963407 = lcg x := rfl
theorem r4_c {k : Nat} (h : k < 2 ^ 31) : (nI k - nI k / 4 * 4 = 0) = (k % 4 = 0) := by
  have h4 : (4 : Int32) = nI 4 := rfl
  have h0 : (0 : Int32) = nI 0 := rfl
  rw [h4, pk_rem h (by omega) (by omega), h0]
  exact propext (nI_eq (by omega) (by omega))
theorem r4_m {k : Nat} (h : k < 2 ^ 31) : (lg_cmp (lN k - lN k / 4 * 4) 0 = 0) = (k % 4 = 0) := by
  have h4 : (4 : Int64) = lN 4 := rfl
  have h0 : (0 : Int64) = lN 0 := rfl
  rw [lg_cmp_eq, h4, pk_lRem (by omega) (by omega) (by omega), h0]
  exact propext (pk_lEQ (by omega) (by omega))
theorem obs2 {α β γ : Type} (E : α) (G : α → β) (f : α → β → γ) {b : β} (h : G E = b) : (obs E fun x => obs (G x) (f x)) = f E b := by
  rw [← h]
  rfl
theorem obs1 {α γ : Type} (E : α) (f : α → γ) : obs E f = f E := rfl
theorem c51_s {n g : Nat} {K : Int32 → Int64 → Int32 → Int32 → qSt → Option (qOut × qSt)} {v3 v6 v7 v8 : Int32} {x : Int64} {S : qSt} : B7_simulate_51 n K (g + 1) v3 x v6 v7 v8 S = if (S 8 1) ≤ v8 then (B7_simulate_124 n K v3 x v6 v7 S) else (if qin v8 21 = true then if ¬ (S 12 v8.toNatClampNeg) = 0 then (B7_simulate_118 n K (B7_simulate_51 n K g) v3 x v6 v7 v8 S) else (if ¬ shK (lcg x) % 4 = 0 then (B7_simulate_117 n K (B7_simulate_51 n K g) v3 (lcg x) v6 v7 v8 v8 0 S) else (B7_simulate_117 n K (B7_simulate_51 n K g) v3 (lcg x) v6 v7 v8 v8 1 S)) else none) := by
  have hk := shK_lt (lcg x)
  rw [B7_simulate_51, lcg_r, obs2 (b := nI (shK (lcg x))) (h := by
    show ((lcg x).toUInt64 >>> ((33 : Int32).toInt64.toUInt64 &&& Int64.toUInt64 63)).toInt64.toInt32 = _
    rw [sh_l, l2i_N hk])]
  simp only [r4_c hk]
theorem c58_s {n g : Nat} {K : Int32 → Int32 → Int32 → Int64 → Int32 → qSt → Option (Int32 × qSt)} {v3 v4 v5 v8 v9 : Int32} {x : Int64} {S : qSt} : B8_simulate_58 n K (g + 1) v3 v4 v5 x v8 v9 S = if (S 114 (1 : Int32).toNatClampNeg) ≤ v9 then (B8_simulate_138 n K v3 v4 v5 x v8 S) else (if qin (64 + v9) 84 = true then if ¬ (S 114 (64 + v9).toNatClampNeg) = 0 then (B8_simulate_132 n K (B8_simulate_58 n K g) v3 v4 v5 x v8 v9 S) else (if ¬ shK (lcg x) % 4 = 0 then (B8_simulate_132 n K (B8_simulate_58 n K g) v3 v4 v5 (lcg x) v8 v9 S) else (if qin (4 + v9) 84 = true then if qin (24 + v9) 84 = true then ob1 (F8_price (S 114 (4 + v9).toNatClampNeg) (S 114 (24 + v9).toNatClampNeg) 0 S) fun S14 => B8_simulate_132 n K (B8_simulate_58 n K g) v3 v4 v5 (lcg x) v8 v9 S14 else none else none)) else none) := by
  have hk := shK_lt (lcg x)
  rw [B8_simulate_58, lcg_r, obs1, sh_l]
  simp only [r4_m hk]
/-- the trial town is laid for the day -/
theorem c_day {S0 : qSt} {n : Nat} {T0 : Tn} {K : Int32 → Int64 → Int32 → Int32 → qSt → Option (qOut × qSt)} {v3 v6 v7 : Int32} (hT : isT S0 8 T0) (hv : vT T0) : ∀ j s f S T x, s + j = T0 0 1 → j < f → kp (pT 13) S0 S → isT S 13 T → ∃ S2, B7_simulate_51 n K f v3 x v6 v7 (nI s) S = B7_simulate_124 n K v3 (dayX T0 j s x) v6 v7 S2 ∧ kp (pT 13) S0 S2 ∧ isT S2 13 (dayT T0 j s T x) := by
  have h20 := hv.2.2.1
  intro j
  induction j with
  | zero =>
    intro s f S T x hs hf hk ht
    obtain ⟨g, rfl, hg⟩ := fuel_s hf
    have hT1 := isT_kp hT hk (by decide) (by decide) (by decide) (by decide) (by decide)
    refine ⟨S, ?_, hk, ht⟩
    rw [c51_s]
    simp (disch := omega) only [if_pos, if_neg, ite_true, ite_false, not_true_eq_false, Bool.false_eq_true, not_false_eq_true, eq_self, obs, ob1, ob2, obx, opx, li_0, li_1, li_2, li_3, li_4, li_5, li_6, li_7, li_8, li_9, li_10, li_14, li_16, li_20, li_21, li_24, li_25, li_32, li_44, li_48, li_57, li_60, li_64, li_81, li_84, li_99, li_100, li_101, li_108, li_111, li_115, li_116, li_120, li_140, li_255, li_500, li_999, li_1000, li_1092, li_1176, li_10000, li_100000, li_1000000, li_N, li_M, nI_add, pk_mul, pk_sub, pk_div, pk_rem, k_mod, nI_clamp, nI_leI, nI_ltI, nI_eq, qin_nI, nI_m1, nN_lt, nN_lt2, nN_le, nN_le2, nN_eq, nN_eq2, qin_nN, Option.some.injEq, Prod.mk.injEq, Sum.inl.injEq, hT1.2.1, dayX]
  | succ j ih =>
    intro s f S T x hs hf hk ht
    obtain ⟨g, rfl, hg⟩ := fuel_s hf
    have hT1 := isT_kp hT hk (by decide) (by decide) (by decide) (by decide) (by decide)
    have t4 : S 12 s = nI (T0 4 s) := (hT1.2.2.2.2 s (by omega)).2.2.2
    have v5 := (hv.2.2.2.2.2.2.1 s (by omega)).2.2.2.2
    rw [c51_s]
    by_cases q : T0 4 s = 0
    · have one : ∀ y b, b ≤ 1 → ∃ S2, B7_simulate_117 n K (B7_simulate_51 n K g) v3 y v6 v7 (nI s) (nI s) (nI b) S = B7_simulate_124 n K v3 (dayX T0 j (s + 1) y) v6 v7 S2 ∧ kp (pT 13) S0 S2 ∧ isT S2 13 (dayT T0 j (s + 1) (tU T 4 s b) y) := fun y b hb => by
        obtain ⟨S2, e2, k2, t2⟩ := ih (s + 1) g (qup S 17 s (nI b)) (tU T 4 s b) y (by omega) (by omega) (kp_up hk (by simp)) (isT_st (x := 4) ht (by omega) (by omega) b)
        refine ⟨S2, ?_, k2, t2⟩
        rw [← e2]
        have hb2 : nI b &&& nI 1 = nI b := nI_and1 hb
        unfold B7_simulate_117 B7_simulate_118
        simp (disch := omega) only [if_pos, if_neg, ite_true, ite_false, not_true_eq_false, Bool.false_eq_true, not_false_eq_true, eq_self, obs, ob1, ob2, obx, opx, li_0, li_1, li_2, li_3, li_4, li_5, li_6, li_7, li_8, li_9, li_10, li_14, li_16, li_20, li_21, li_24, li_25, li_32, li_44, li_48, li_57, li_60, li_64, li_81, li_84, li_99, li_100, li_101, li_108, li_111, li_115, li_116, li_120, li_140, li_255, li_500, li_999, li_1000, li_1092, li_1176, li_10000, li_100000, li_1000000, li_N, li_M, nI_add, pk_mul, pk_sub, pk_div, pk_rem, k_mod, nI_clamp, nI_leI, nI_ltI, nI_eq, qin_nI, nI_m1, nN_lt, nN_lt2, nN_le, nN_le2, nN_eq, nN_eq2, qin_nN, Option.some.injEq, Prod.mk.injEq, Sum.inl.injEq, hb2]
      rw [dayX, dayT, if_pos q, if_pos q]
      generalize lcg x = y
      by_cases z : shK y % 4 = 0
      · obtain ⟨S2, e2, k2, t2⟩ := one y 1 (by omega)
        refine ⟨S2, ?_, k2, ?_⟩
        · simp (disch := omega) only [if_pos, if_neg, ite_true, ite_false, not_true_eq_false, Bool.false_eq_true, not_false_eq_true, eq_self, obs, ob1, ob2, obx, opx, li_0, li_1, li_2, li_3, li_4, li_5, li_6, li_7, li_8, li_9, li_10, li_14, li_16, li_20, li_21, li_24, li_25, li_32, li_44, li_48, li_57, li_60, li_64, li_81, li_84, li_99, li_100, li_101, li_108, li_111, li_115, li_116, li_120, li_140, li_255, li_500, li_999, li_1000, li_1092, li_1176, li_10000, li_100000, li_1000000, li_N, li_M, nI_add, pk_mul, pk_sub, pk_div, pk_rem, k_mod, nI_clamp, nI_leI, nI_ltI, nI_eq, qin_nI, nI_m1, nN_lt, nN_lt2, nN_le, nN_le2, nN_eq, nN_eq2, qin_nN, Option.some.injEq, Prod.mk.injEq, Sum.inl.injEq, hT1.2.1, t4, q]
          exact e2
        · rw [if_pos z]
          exact t2
      · obtain ⟨S2, e2, k2, t2⟩ := one y 0 (by omega)
        refine ⟨S2, ?_, k2, ?_⟩
        · simp (disch := omega) only [if_pos, if_neg, ite_true, ite_false, not_true_eq_false, Bool.false_eq_true, not_false_eq_true, eq_self, obs, ob1, ob2, obx, opx, li_0, li_1, li_2, li_3, li_4, li_5, li_6, li_7, li_8, li_9, li_10, li_14, li_16, li_20, li_21, li_24, li_25, li_32, li_44, li_48, li_57, li_60, li_64, li_81, li_84, li_99, li_100, li_101, li_108, li_111, li_115, li_116, li_120, li_140, li_255, li_500, li_999, li_1000, li_1092, li_1176, li_10000, li_100000, li_1000000, li_N, li_M, nI_add, pk_mul, pk_sub, pk_div, pk_rem, k_mod, nI_clamp, nI_leI, nI_ltI, nI_eq, qin_nI, nI_m1, nN_lt, nN_lt2, nN_le, nN_le2, nN_eq, nN_eq2, qin_nN, Option.some.injEq, Prod.mk.injEq, Sum.inl.injEq, hT1.2.1, t4, q]
          exact e2
        · rw [if_neg z]
          exact t2
    · obtain ⟨S2, e2, k2, t2⟩ := ih (s + 1) g S T x (by omega) (by omega) hk ht
      rw [dayX, dayT, if_neg q, if_neg q]
      generalize lcg x = y
      simp (disch := omega) only [if_pos, if_neg, ite_true, ite_false, not_true_eq_false, Bool.false_eq_true, not_false_eq_true, eq_self, obs, ob1, ob2, obx, opx, li_0, li_1, li_2, li_3, li_4, li_5, li_6, li_7, li_8, li_9, li_10, li_14, li_16, li_20, li_21, li_24, li_25, li_32, li_44, li_48, li_57, li_60, li_64, li_81, li_84, li_99, li_100, li_101, li_108, li_111, li_115, li_116, li_120, li_140, li_255, li_500, li_999, li_1000, li_1092, li_1176, li_10000, li_100000, li_1000000, li_N, li_M, nI_add, pk_mul, pk_sub, pk_div, pk_rem, k_mod, nI_clamp, nI_leI, nI_ltI, nI_eq, qin_nI, nI_m1, nN_lt, nN_lt2, nN_le, nN_le2, nN_eq, nN_eq2, qin_nN, Option.some.injEq, Prod.mk.injEq, Sum.inl.injEq, hT1.2.1, t4, B7_simulate_118]
      exact ⟨S2, e2, k2, t2⟩
theorem eU_sym {e : Gr} {a b l : Nat} : eU e b a l = eU e a b l := by
  funext x y
  unfold eU
  by_cases q : (x = a ∧ y = b) ∨ (x = b ∧ y = a)
  · rw [if_pos q, if_pos q.symm]
  · rw [if_neg q, if_neg (fun z => q z.symm)]
theorem isG_uniq {e e2 : Gr} {T : Tn} {but : Nat} (h : isG e T but) (h2 : isG e2 T but) : e = e2 := by
  funext a b
  by_cases q : e a b = 0
  · by_cases q2 : e2 a b = 0
    · rw [q, q2]
    · obtain ⟨s, g1, g2, g3, g4, g5⟩ := h2.2 a b q2
      rw [g4, isG_jn h g1 g2 g3 g5]
  · obtain ⟨s, g1, g2, g3, g4, g5⟩ := h.2 a b q
    rw [g4, isG_jn h2 g1 g2 g3 g5]
theorem isG_cut {e : Gr} {T : Tn} {s : Nat} (hv : vT T) (hs : s < T 0 1) (h0 : T 4 s = 0) (h : isG e T 9999) : isG (eU e (T 1 s) (T 2 s) 0) (tU T 4 s 1) 9999 := by
  have h20 := hv.2.2.1
  have q : ∀ x, tU T 4 s 1 0 x = T 0 x := fun x => by simp (disch := omega) only [qup_e, if_pos, if_neg, ite_true, ite_false, eq_self, and_self, true_and, and_true, tU]
  have q1 : ∀ x, tU T 4 s 1 1 x = T 1 x := fun x => by simp (disch := omega) only [qup_e, if_pos, if_neg, ite_true, ite_false, eq_self, and_self, true_and, and_true, tU]
  have q2 : ∀ x, tU T 4 s 1 2 x = T 2 x := fun x => by simp (disch := omega) only [qup_e, if_pos, if_neg, ite_true, ite_false, eq_self, and_self, true_and, and_true, tU]
  have q3 : ∀ x, tU T 4 s 1 3 x = T 3 x := fun x => by simp (disch := omega) only [qup_e, if_pos, if_neg, ite_true, ite_false, eq_self, and_self, true_and, and_true, tU]
  have q4 : ∀ x, tU T 4 s 1 4 x = if x = s then 1 else T 4 x := fun x => by simp (disch := omega) only [qup_e, if_pos, if_neg, ite_true, ite_false, eq_self, and_self, true_and, and_true, tU]
  have vs := hv.2.2.2.2.2.2.1 s hs
  unfold isG jn eU
  simp only [q, q1, q2, q3, q4]
  refine ⟨fun r hr h4 _ => ?_, fun a b hab => ?_⟩
  · by_cases z : r = s
    · rw [if_pos z] at h4
      omega
    · rw [if_neg z] at h4
      have vr := hv.2.2.2.2.2.2.1 r hr
      have hu := hv.2.2.2.2.2.2.2 r s hr hs
      have g := h.1 r hr h4 (by omega)
      have n1 : ¬ (T 1 r = T 1 s ∧ T 2 r = T 2 s) := fun w => z (hu w.1 w.2)
      rw [if_neg (by omega), if_neg (by omega)]
      exact g
  · by_cases z : (a = T 1 s ∧ b = T 2 s) ∨ (a = T 2 s ∧ b = T 1 s)
    · rw [if_pos z] at hab
      exact absurd rfl hab
    · rw [if_neg z] at hab
      obtain ⟨r, g1, g2, g3, g4, g5⟩ := h.2 a b hab
      unfold jn at g5
      have hrs : r ≠ s := fun w => by
        subst w
        omega
      refine ⟨r, g1, ?_, g3, ?_, g5⟩
      · rw [if_neg hrs]
        exact g2
      · rw [if_neg z]
        exact g4
theorem m_day {S0 : qSt} {n : Nat} {T0 : Tn} {K : Int32 → Int32 → Int32 → Int64 → Int32 → qSt → Option (Int32 × qSt)} {v3 v4 v5 v8 : Int32} (hT : isM S0 114 0 T0) (hv : vT T0) : ∀ j s f S T e x, s + j = T0 0 1 → j < f → kp [120] S0 S → vT T → (∀ i, i ≠ 4 → T i = T0 i) → (∀ r, s ≤ r → T 4 r = T0 4 r) → isG e T 9999 → isC S e → ∃ S2 e2, B8_simulate_58 n K f v3 v4 v5 x v8 (nI s) S = B8_simulate_138 n K v3 v4 v5 (dayX T0 j s x) v8 S2 ∧ kp [120] S0 S2 ∧ isG e2 (dayT T0 j s T x) 9999 ∧ isC S2 e2 ∧ vT (dayT T0 j s T x) ∧ ∀ i, i ≠ 4 → dayT T0 j s T x i = T0 i := by
  have h20 := hv.2.2.1
  have h9 := hv.2.1
  intro j
  induction j with
  | zero =>
    intro s f S T e x hs hf hk hvT h4 h5 hG hC
    obtain ⟨g, rfl, hg⟩ := fuel_s hf
    have hT1 := isM_kp hT hk (by decide)
    have t1 : S 114 1 = nI (T0 0 1) := hT1.2.1
    refine ⟨S, e, ?_, hk, hG, hC, hvT, h4⟩
    rw [c58_s]
    simp (disch := omega) only [if_pos, if_neg, ite_true, ite_false, not_true_eq_false, Bool.false_eq_true, not_false_eq_true, eq_self, obs, ob1, ob2, obx, opx, li_0, li_1, li_2, li_3, li_4, li_5, li_6, li_7, li_8, li_9, li_10, li_14, li_16, li_20, li_21, li_24, li_25, li_32, li_44, li_48, li_57, li_60, li_64, li_81, li_84, li_99, li_100, li_101, li_108, li_111, li_115, li_116, li_120, li_140, li_255, li_500, li_999, li_1000, li_1092, li_1176, li_10000, li_100000, li_1000000, li_N, li_M, nI_add, pk_mul, pk_sub, pk_div, pk_rem, k_mod, nI_clamp, nI_leI, nI_ltI, nI_eq, qin_nI, nI_m1, nN_lt, nN_lt2, nN_le, nN_le2, nN_eq, nN_eq2, qin_nN, Option.some.injEq, Prod.mk.injEq, Sum.inl.injEq, t1, dayX]
  | succ j ih =>
    intro s f S T e x hs hf hk hvT h4 h5 hG hC
    obtain ⟨g, rfl, hg⟩ := fuel_s hf
    have hT1 := isM_kp hT hk (by decide)
    have t1 : S 114 1 = nI (T0 0 1) := hT1.2.1
    obtain ⟨u1, -, u4⟩ := hT1.2.2.2.2 s (by omega)
    simp only [Nat.zero_add] at u1 u4
    obtain ⟨w1, w2, w3, w4, w5⟩ := hv.2.2.2.2.2.2.1 s (by omega)
    rw [c58_s]
    by_cases q : T0 4 s = 0
    · rw [dayX, dayT, if_pos q, if_pos q]
      generalize lcg x = y
      have h4s : ∀ b, ∀ i, i ≠ 4 → tU T 4 s b i = T0 i := fun b i hi => by
        funext r
        unfold tU
        rw [if_neg (by omega), h4 i hi]
      have h5s : ∀ b, ∀ r, s + 1 ≤ r → tU T 4 s b 4 r = T0 4 r := fun b r hr => by
        unfold tU
        rw [if_neg (by omega), h5 r (by omega)]
      by_cases z : shK y % 4 = 0
      · have hT4 : T 4 s = 0 := by rw [h5 s (by omega)]; exact q
        have hs1 : s < T 0 1 := by rw [h4 0 (by omega)]; omega
        have hG2 := isG_cut hvT hs1 hT4 hG
        rw [h4 1 (by omega), h4 2 (by omega)] at hG2
        have pr : ∃ S2, F8_price (S 114 (4 + s)) (S 114 (24 + s)) (nI 0) S = some S2 ∧ kp [120] S S2 ∧ isC S2 (eU e (T0 1 s) (T0 2 s) 0) := by
          rcases u1 with ⟨u1, u2⟩ | ⟨u1, u2⟩
          · rw [u1, u2]
            exact m_price_C (l := 0) (by omega) (by omega) hC
          · rw [u1, u2, ← eU_sym]
            exact m_price_C (l := 0) (by omega) (by omega) hC
        obtain ⟨S1, e1, k1, c1⟩ := pr
        have hv2 := vK_shut (s := s) hvT (Nat.le_refl 1)
        obtain ⟨S2, e2, f2, g2, g3⟩ := ih (s + 1) g S1 (tU T 4 s 1) _ y (by omega) (by omega) (kp_tr hk k1 (fun _ h => h) (fun _ h => h)) hv2 (h4s 1) (h5s 1) hG2 c1
        rw [if_pos z]
        refine ⟨S2, e2, ?_, g2, g3⟩
        simp (disch := omega) only [if_pos, if_neg, ite_true, ite_false, not_true_eq_false, Bool.false_eq_true, not_false_eq_true, eq_self, obs, ob1, ob2, obx, opx, li_0, li_1, li_2, li_3, li_4, li_5, li_6, li_7, li_8, li_9, li_10, li_14, li_16, li_20, li_21, li_24, li_25, li_32, li_44, li_48, li_57, li_60, li_64, li_81, li_84, li_99, li_100, li_101, li_108, li_111, li_115, li_116, li_120, li_140, li_255, li_500, li_999, li_1000, li_1092, li_1176, li_10000, li_100000, li_1000000, li_N, li_M, nI_add, pk_mul, pk_sub, pk_div, pk_rem, k_mod, nI_clamp, nI_leI, nI_ltI, nI_eq, qin_nI, nI_m1, nN_lt, nN_lt2, nN_le, nN_le2, nN_eq, nN_eq2, qin_nN, Option.some.injEq, Prod.mk.injEq, Sum.inl.injEq, t1, u4, q, e1, B8_simulate_132]
        exact f2
      · have hid : tU T 4 s 0 = T := by
          have hT4 : T 4 s = 0 := by rw [h5 s (by omega)]; exact q
          rw [← hT4]
          exact tU_self
        have hs0 := h5s 0
        rw [hid] at hs0
        obtain ⟨S2, e2, f2, g2, g3⟩ := ih (s + 1) g S T e y (by omega) (by omega) hk hvT h4 hs0 hG hC
        rw [if_neg z, hid]
        refine ⟨S2, e2, ?_, g2, g3⟩
        simp (disch := omega) only [if_pos, if_neg, ite_true, ite_false, not_true_eq_false, Bool.false_eq_true, not_false_eq_true, eq_self, obs, ob1, ob2, obx, opx, li_0, li_1, li_2, li_3, li_4, li_5, li_6, li_7, li_8, li_9, li_10, li_14, li_16, li_20, li_21, li_24, li_25, li_32, li_44, li_48, li_57, li_60, li_64, li_81, li_84, li_99, li_100, li_101, li_108, li_111, li_115, li_116, li_120, li_140, li_255, li_500, li_999, li_1000, li_1092, li_1176, li_10000, li_100000, li_1000000, li_N, li_M, nI_add, pk_mul, pk_sub, pk_div, pk_rem, k_mod, nI_clamp, nI_leI, nI_ltI, nI_eq, qin_nI, nI_m1, nN_lt, nN_lt2, nN_le, nN_le2, nN_eq, nN_eq2, qin_nN, Option.some.injEq, Prod.mk.injEq, Sum.inl.injEq, t1, u4, q, B8_simulate_132]
        exact f2
    · obtain ⟨S2, e2, f2, g2, g3⟩ := ih (s + 1) g S T e x (by omega) (by omega) hk hvT h4 (fun r hr => h5 r (by omega)) hG hC
      rw [dayX, dayT, if_neg q, if_neg q]
      generalize lcg x = y
      refine ⟨S2, e2, ?_, g2, g3⟩
      simp (disch := omega) only [if_pos, if_neg, ite_true, ite_false, not_true_eq_false, Bool.false_eq_true, not_false_eq_true, eq_self, obs, ob1, ob2, obx, opx, li_0, li_1, li_2, li_3, li_4, li_5, li_6, li_7, li_8, li_9, li_10, li_14, li_16, li_20, li_21, li_24, li_25, li_32, li_44, li_48, li_57, li_60, li_64, li_81, li_84, li_99, li_100, li_101, li_108, li_111, li_115, li_116, li_120, li_140, li_255, li_500, li_999, li_1000, li_1092, li_1176, li_10000, li_100000, li_1000000, li_N, li_M, nI_add, pk_mul, pk_sub, pk_div, pk_rem, k_mod, nI_clamp, nI_leI, nI_ltI, nI_eq, qin_nI, nI_m1, nN_lt, nN_lt2, nN_le, nN_le2, nN_eq, nN_eq2, qin_nN, Option.some.injEq, Prod.mk.injEq, Sum.inl.injEq, t1, u4, B8_simulate_132]
      exact f2
