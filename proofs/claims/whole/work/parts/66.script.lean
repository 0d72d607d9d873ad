/-! RUN A SCRIPT -/
theorem l64_h : (100000 : Int64) = lN 100000 := rfl
theorem in64 (x lo hi : Int64) (S : qSt) : F8_in x lo hi S = if x < lo then 0 else if hi < x then 0 else 1 := by
  unfold F8_in
  simp only [lg_cmp_lt, lg_cmp_gt]
theorem c_lg_loop {n k : Nat} {S : qSt} (hk : k ≤ 3) : ∀ j i f x, i + j = k → j < f → x < 2 ^ 63 → B7_leadingGroups_5 n f (nI k) (lN x) (nI i) S = some (lN (x / 100000 ^ j)) := by
  intro j
  induction j with
  | zero =>
    intro i f x hs hf hx
    obtain ⟨g, rfl, hg⟩ := fuel_s hf
    rw [B7_leadingGroups_5, if_pos (nI_le (by omega) (by omega)), Nat.pow_zero, Nat.div_one]
  | succ j ih =>
    intro i f x hs hf hx
    obtain ⟨g, rfl, hg⟩ := fuel_s hf
    rw [B7_leadingGroups_5, if_neg (nI_ge (by omega) (by omega)), l64_h, pk_lDiv hx (by omega) (by omega), nI_1, ih (i + 1) g (x / 100000) (by omega) (by omega) (by omega), Nat.div_div_eq_div_mul, Nat.pow_succ, Nat.mul_comm]
theorem c_lg {n k q : Nat} {S : qSt} (hk : k ≤ 3) (hq : q < 2 ^ 63) (hn : 100 ≤ n) : F7_leadingGroups n (lN q) (nI k) S = some (lN (q / 100000 ^ k)) := c_lg_loop hk k 0 n q (by omega) (by omega) hq
theorem l_rem {y : Nat} (hy : y < 2 ^ 63) : (lN y - lN y / 100000 * 100000).toInt32 = nI (y % 100000) := by
  rw [l64_h, pk_lRem hy (by omega) (by omega), l2i_N (by omega)]
theorem m_tg {n g : Nat} {S : qSt} (hg : g < 100000) : F8_tryGroup n (nI g / 10000) (nI g / 1000 - nI g / 1000 / 10 * 10) (nI g / 100 - nI g / 100 / 10 * 10) (nI g - nI g / 100 * 100) S = F8_tryGroup n (nI (g / 10000)) (nI (g / 1000 % 10)) (nI (g / 100 % 10)) (nI (g % 100)) S := by
  have e1 : nI g / 1000 - nI g / 1000 / 10 * 10 = nI (g / 1000 % 10) := by
    rw [show (1000 : Int32) = nI 1000 from rfl, show (10 : Int32) = nI 10 from rfl, pk_div (by omega) (by omega) (by omega), pk_rem (by omega) (by omega) (by omega)]
  have e2 : nI g / 100 - nI g / 100 / 10 * 10 = nI (g / 100 % 10) := by
    rw [show (100 : Int32) = nI 100 from rfl, show (10 : Int32) = nI 10 from rfl, pk_div (by omega) (by omega) (by omega), pk_rem (by omega) (by omega) (by omega)]
  have e4 : nI g / 10000 = nI (g / 10000) := by
    rw [show (10000 : Int32) = nI 10000 from rfl, pk_div (by omega) (by omega) (by omega)]
  have e5 : nI g - nI g / 100 * 100 = nI (g % 100) := by
    rw [show (100 : Int32) = nI 100 from rfl, pk_rem (by omega) (by omega) (by omega)]
  rw [e1, e2, e4, e5]
section QSC
variable {n q m : Nat}
theorem isO_1 {r : Option Tn} (h : isO r ≠ 0) : ∃ T, r = some T := by
  cases r with
  | none => exact absurd rfl h
  | some T => exact ⟨T, rfl⟩
theorem scr (hq : q < 2 ^ 63) (hm : m ≤ 3) (hn : 100000000 ≤ n) : ∀ j i T, i + j = m → vT T → ∃ r : Int32, (∀ f S, j < f → isT S 13 T → ∃ S2, B7_runScript_62 n f (nI m) (lN q) (nI i) S = some (.inl r, S2) ∧ kp pW S S2) ∧ ∀ f S, j < f → isM S 115 0 T → ∃ S2, B8_runScript_86 n f (nI m) (lN q) (lN (100000 ^ j)) (nI i) S = some (r, S2) ∧ kp [111, 115, 120, 121, 122] S S2 ∧ k1 [15] S S2 := by
  intro j
  induction j with
  | zero =>
    intro i T hs hv
    refine ⟨nN, fun f S hf hS => ?_, fun f S hf hS => ?_⟩
    · obtain ⟨g, rfl, hg⟩ := fuel_s hf
      refine ⟨S, ?_, kp_rfl⟩
      rw [B7_runScript_62, if_pos (nI_le (by omega) (by omega))]
      rfl
    · obtain ⟨g, rfl, hg⟩ := fuel_s hf
      refine ⟨S, ?_, kp_rfl, k1_rfl⟩
      rw [B8_runScript_86, if_pos (nI_le (by omega) (by omega))]
      rfl
  | succ j ih =>
    intro i T hs hv
    have hp1 : 100000 ^ (j + 1) < 2 ^ 63 := Nat.lt_of_le_of_lt (Nat.pow_le_pow_right (by omega) (show j + 1 ≤ 3 by omega)) (by decide)
    have hp0 : 0 < 100000 ^ j := Nat.pow_pos (by omega)
    have hp2 : 100000 ^ (j + 1) = 100000 ^ j * 100000 := Nat.pow_succ _ _
    have hp3 : 100000 ^ j < 2 ^ 63 := by omega
    have hlg := fun S => c_lg (n := n) (k := j) (q := q) (S := S) (by omega) hq (by omega)
    have hdv : lN (100000 ^ (j + 1)) / 100000 = lN (100000 ^ j) := by
      rw [l64_h, pk_lDiv hp1 (by omega) (by omega), hp2, Nat.mul_div_cancel _ (by omega)]
    have hq2 : lN q / lN (100000 ^ j) = lN (q / 100000 ^ j) := pk_lDiv hq hp0 hp3
    have hne : ¬ lN (100000 ^ j) = 0 := fun v => by
      have h0 : (0 : Int64) = lN 0 := rfl
      rw [h0, pk_lEQ hp3 (by omega)] at v
      omega
    have hy : q / 100000 ^ j < 2 ^ 63 := Nat.lt_of_le_of_lt (Nat.div_le_self _ _) hq
    have hsub : (nI m - 1) - nI i = nI j := by
      rw [show (1 : Int32) = nI 1 from rfl, pk_sub (by omega), pk_sub (by omega)]
      congr 1
      omega
    generalize 100000 ^ (j + 1) = P1 at *
    have hrem := l_rem hy
    generalize hyy : q / 100000 ^ j = y at *
    have hg : y % 100000 < 100000 := by omega
    generalize y % 100000 = g at *
    obtain ⟨r, rv, rc, rm⟩ := grp (n := n) (T := T) (h := g / 10000) (a := g / 1000 % 10) (b := g / 100 % 10) (w := g % 100) hv hn (by omega) (by omega) (by omega) (by omega)
    rw [show 10 * (g / 1000 % 10) + g / 100 % 10 = g / 100 % 100 by omega, show 100 * (g / 100 % 10) + g % 100 = g % 1000 by omega] at rc
    have hlt : ¬ nI m ≤ nI i := nI_ge (by omega) (by omega)
    have hc : ∀ f S S3, F7_scriptCommandOnTrial n (nI g) S = some (nI (isO r), S3) → B7_runScript_62 n (f + 1) (nI m) (lN q) (nI i) S = if ¬ nI (isO r) = 0 then B7_runScript_62 n f (nI m) (lN q) (nI i + 1) S3 else some (.inl (nI i), S3) := fun f S S3 e => by
      rw [B7_runScript_62, if_neg hlt, hsub, hlg, ob1_s, hrem, e, ob2_s]
    have hM : ∀ f S S3, F8_tryGroup n (nI (g / 10000)) (nI (g / 1000 % 10)) (nI (g / 100 % 10)) (nI (g % 100)) S = some (nI (isO r), S3) → B8_runScript_86 n (f + 1) (nI m) (lN q) (lN P1) (nI i) S = if ¬ nI (isO r) = 0 then B8_runScript_86 n f (nI m) (lN q) (lN (100000 ^ j)) (nI i + 1) S3 else some (nI i, S3) := fun f S S3 e => by
      rw [B8_runScript_86, if_neg hlt, hdv, if_neg hne, hq2, hrem, obs1, m_tg hg, e, ob2_s]
    by_cases z : isO r = 0
    · refine ⟨nI i, fun f S hf hS => ?_, fun f S hf hS => ?_⟩
      · obtain ⟨f, rfl, hf2⟩ := fuel_s hf
        obtain ⟨S3, e3, k3, -⟩ := rc S hS
        refine ⟨S3, ?_, k3⟩
        rw [hc f S S3 (by rw [c_sc hg]; exact e3), z, if_neg (fun v => v rfl)]
      · obtain ⟨f, rfl, hf2⟩ := fuel_s hf
        obtain ⟨S3, e3, k3, kk3, -⟩ := rm S hS
        refine ⟨S3, ?_, k3, kk3⟩
        rw [hM f S S3 e3, z, if_neg (fun v => v rfl)]
    · obtain ⟨T3, hT3⟩ := isO_1 z
      have z1 : isO r = 1 := by
        rw [hT3]
        rfl
      obtain ⟨r2, i1, i2⟩ := ih (i + 1) T3 (by omega) (rv T3 hT3)
      refine ⟨r2, fun f S hf hS => ?_, fun f S hf hS => ?_⟩
      · obtain ⟨f, rfl, hf2⟩ := fuel_s hf
        obtain ⟨S3, e3, k3, t3⟩ := rc S hS
        obtain ⟨S4, e4, k4⟩ := i1 f S3 (by omega) (t3 T3 hT3)
        refine ⟨S4, ?_, kp_tr k3 k4 (fun _ h => h) (fun _ h => h)⟩
        rw [hc f S S3 (by rw [c_sc hg]; exact e3), z1, if_pos (by decide), nI_1]
        exact e4
      · obtain ⟨f, rfl, hf2⟩ := fuel_s hf
        obtain ⟨S3, e3, k3, kk3, t3⟩ := rm S hS
        obtain ⟨S4, e4, k4, kk4⟩ := i2 f S3 (by omega) (t3 T3 hT3)
        refine ⟨S4, ?_, kp_tr k3 k4 (fun _ h => h) (fun _ h => h), k1_tr kk3 kk4 (fun _ h => h) (fun _ h => h)⟩
        rw [hM f S S3 e3, z1, if_pos (by decide), nI_1]
        exact e4
theorem m_all {S : qSt} (hn : 100 ≤ n) (x : Int32) (w : Int64) : ∃ a, F8_runScript n x w S = B8_runScript_32 n x w a S := by
  obtain ⟨g, rfl⟩ : ∃ g, n = g + 1 + 1 + 1 + 1 := ⟨n - 4, by omega⟩
  unfold F8_runScript
  by_cases q0 : x ≤ 0
  · refine ⟨1, ?_⟩
    rw [B8_runScript_6, if_pos q0]
  by_cases q1 : x ≤ 0 + 1
  · refine ⟨1 * 100000, ?_⟩
    rw [B8_runScript_6, if_neg q0, if_neg (by decide), B8_runScript_6, if_pos q1]
  by_cases q2 : x ≤ 0 + 1 + 1
  · refine ⟨1 * 100000 * 100000, ?_⟩
    rw [B8_runScript_6, if_neg q0, if_neg (by decide), B8_runScript_6, if_neg q1, if_neg (by decide), B8_runScript_6, if_pos q2]
  · refine ⟨1 * 100000 * 100000 * 100000, ?_⟩
    rw [B8_runScript_6, if_neg q0, if_neg (by decide), B8_runScript_6, if_neg q1, if_neg (by decide), B8_runScript_6, if_neg q2, if_neg (by decide), B8_runScript_6]
    split
    · rfl
    · rw [if_pos (by decide)]
theorem m_all2 {S : qSt} (hn : 100 ≤ n) (h1 : 1 ≤ m) (hm : m ≤ 3) (w : Int64) : F8_runScript n (nI m) w S = B8_runScript_32 n (nI m) w (lN (100000 ^ m)) S := by
  obtain ⟨g, rfl⟩ : ∃ g, n = g + 1 + 1 + 1 + 1 := ⟨n - 4, by omega⟩
  unfold F8_runScript
  rcases (by omega : m = 1 ∨ m = 2 ∨ m = 3) with rfl | rfl | rfl
  · have e : (1 : Int64) * 100000 = lN (100000 ^ 1) := by decide +kernel
    rw [← e, B8_runScript_6, if_neg (by decide), if_neg (by decide), B8_runScript_6, if_pos (by decide)]
  · have e : (1 : Int64) * 100000 * 100000 = lN (100000 ^ 2) := by decide +kernel
    rw [← e, B8_runScript_6, if_neg (by decide), if_neg (by decide), B8_runScript_6, if_neg (by decide), if_neg (by decide), B8_runScript_6, if_pos (by decide)]
  · have e : (1 : Int64) * 100000 * 100000 * 100000 = lN (100000 ^ 3) := by decide +kernel
    rw [← e, B8_runScript_6, if_neg (by decide), if_neg (by decide), B8_runScript_6, if_neg (by decide), if_neg (by decide), B8_runScript_6, if_neg (by decide), if_neg (by decide), B8_runScript_6, if_pos (by decide)]
theorem m_hi (h1 : 1 ≤ m) (hm : m ≤ 3) : lN (100000 ^ m) - 1 = lN (100000 ^ m - 1) := by
  rcases (by omega : m = 1 ∨ m = 2 ∨ m = 3) with rfl | rfl | rfl <;> decide +kernel
theorem m_hi2 (h1 : 1 ≤ m) (hm : m ≤ 3) : 0 < 100000 ^ m ∧ 100000 ^ m < 2 ^ 63 := by
  rcases (by omega : m = 1 ∨ m = 2 ∨ m = 3) with rfl | rfl | rfl <;> decide
theorem k_runScript {S : qSt} (h : Rel S) (hn : 100000000 ≤ n) (x : Int32) (w : Int64) : okc (CC (FL_runScript n x w S) (F8_runScript n x w)) := by
  obtain ⟨L, c, T, hc, H, F, K, hR, rm, ok⟩ := h
  obtain ⟨x1, x2, x3, x4, x5⟩ := kx_114
  have hv := ok.2.2.1
  have hT := hR.2.1
  have h20 := hv.2.2.1
  unfold FL_runScript
  by_cases hl : ∀ l, 1 ≤ l → l ≤ 3 → x ≠ nI l
  · refine okc_e (k := 0) (w := 1) hR rm ok ?_ (fun S => by simp (disch := omega) only [if_pos, if_neg, ite_true, ite_false, not_true_eq_false, Bool.false_eq_true, not_false_eq_true, eq_self, obs, ob1, ob2, obx, opx, li_0, li_1, li_2, li_3, li_4, li_5, li_6, li_7, li_8, li_9, li_10, li_14, li_16, li_20, li_21, li_24, li_25, li_32, li_44, li_48, li_57, li_60, li_64, li_81, li_84, li_99, li_100, li_101, li_108, li_111, li_115, li_116, li_120, li_140, li_255, li_500, li_999, li_1000, li_1092, li_1176, li_10000, li_100000, li_1000000, li_N, li_M, nI_add, pk_mul, pk_sub, pk_div, pk_rem, k_mod, nI_clamp, nI_leI, nI_ltI, nI_eq, qin_nI, nI_m1, nN_lt, nN_lt2, nN_le, nN_le2, nN_eq, nN_eq2, qin_nN, Option.some.injEq, Prod.mk.injEq, Sum.inl.injEq]) (by omega) (by omega) (fun S rm => ?_)
    · unfold F7_runScript B7_runScript_10
      rcases rng_n S (by omega) (by omega) hl with q | q
      · rw [show (1 : Int32) = nI 1 from rfl, if_pos q]
      · rw [show (3 : Int32) = nI 3 from rfl, if_neg q]
        split <;> rfl
    · have hin : F8_in x.toInt64 1 3 S = 0 := by
        rw [l64_1, l64_3]
        exact in_n S hl (by omega) (by omega)
      obtain ⟨a, ea⟩ := m_all (n := n) (S := S) (by omega) x w
      rw [ea]
      unfold B8_runScript_32 B8_runScript_61 B8_runScript_62
      rw [if_pos hin]
      exact m_throw 1 (by omega) (by omega)
  have hl2 : ∃ l, 1 ≤ l ∧ l ≤ 3 ∧ x = nI l := Classical.byContradiction fun q => hl (fun l h1 h2 h3 => q ⟨l, h1, h2, h3⟩)
  obtain ⟨m, m1, m3, rfl⟩ := hl2
  have hin : ∀ S, ¬ F8_in (nI m).toInt64 1 3 S = 0 := fun S => by
    rw [l64_1, l64_3, in_y S m1 m3 (by omega)]
    decide +kernel
  have c1 : ¬ nI m < 1 := nI_nlt (a := m) (b := 1) m1 (by omega)
  have c3 : nI m ≤ 3 := nI_le (b := 3) m3 (by omega)
  have bad : (F7_runScript n (nI m) w S = B7_runScript_37 n S) → (∀ S, F8_in w 0 (lN (100000 ^ m) - 1) S = 0) → okc (CC (obx (F7_runScript n (nI m) w S) (fun r1 S1 => some (0, qup S1 126 (0 : Int32).toNatClampNeg r1)) (fun k S1 => if k = 0 then some (1, S1) else none)) (F8_runScript n (nI m) w)) := fun g1 g2 => by
    refine okc_e (k := 0) (w := 1) hR rm ok ?_ (fun S => by simp (disch := omega) only [if_pos, if_neg, ite_true, ite_false, not_true_eq_false, Bool.false_eq_true, not_false_eq_true, eq_self, obs, ob1, ob2, obx, opx, li_0, li_1, li_2, li_3, li_4, li_5, li_6, li_7, li_8, li_9, li_10, li_14, li_16, li_20, li_21, li_24, li_25, li_32, li_44, li_48, li_57, li_60, li_64, li_81, li_84, li_99, li_100, li_101, li_108, li_111, li_115, li_116, li_120, li_140, li_255, li_500, li_999, li_1000, li_1092, li_1176, li_10000, li_100000, li_1000000, li_N, li_M, nI_add, pk_mul, pk_sub, pk_div, pk_rem, k_mod, nI_clamp, nI_leI, nI_ltI, nI_eq, qin_nI, nI_m1, nN_lt, nN_lt2, nN_le, nN_le2, nN_eq, nN_eq2, qin_nN, Option.some.injEq, Prod.mk.injEq, Sum.inl.injEq]) (by omega) (by omega) (fun S rm => ?_)
    · rw [g1]
      rfl
    · rw [m_all2 (by omega) m1 m3]
      unfold B8_runScript_32 B8_runScript_61 B8_runScript_62
      rw [if_neg (hin S), if_pos (g2 S)]
      exact m_throw 1 (by omega) (by omega)
  by_cases hw : w < 0
  · refine bad ?_ (fun S => ?_)
    · unfold F7_runScript
      rw [if_neg c1, if_pos c3, if_pos ((lg_cmp_lt _ _).mpr hw)]
    · rw [in64, if_pos hw]
  obtain ⟨q, hq, rfl⟩ := pk_lOf hw
  obtain ⟨hp0, hp63⟩ := m_hi2 m1 m3
  have hlg := c_lg (n := n) (k := m) (q := q) (S := S) m3 hq (by omega)
  have hy : q / 100000 ^ m < 2 ^ 63 := Nat.lt_of_le_of_lt (Nat.div_le_self _ _) hq
  have h0 : (0 : Int64) = lN 0 := rfl
  by_cases big : 100000 ^ m ≤ q
  · refine bad ?_ (fun S => ?_)
    · unfold F7_runScript
      have hne : ¬ lg_cmp (lN (q / 100000 ^ m)) 0 = 0 := fun v => by
        have v2 := (lg_cmp_eq _ _).mp v
        rw [h0, pk_lEQ hy (by omega)] at v2
        have := Nat.div_pos big hp0
        omega
      rw [if_neg c1, if_pos c3, if_neg (fun v => hw ((lg_cmp_lt _ _).mp v)), hlg, ob1_s, if_neg hne]
    · rw [in64, if_neg hw, if_pos]
      rw [m_hi m1 m3, pk_lLT (by omega) hq]
      omega
  · obtain ⟨r, r1, r2⟩ := scr (n := n) (q := q) (m := m) hq m3 hn m 0 T (by omega) hv
    obtain ⟨S1, e1, t1, ka, q1, w1⟩ := c_cp13 (n := n) hR ok (by omega)
    obtain ⟨S2, e2, k2⟩ := r1 n S1 (by omega) t1
    refine okc_q (r := r) rm ⟨S2, ?_, RC_kp q1 k2 (by simp), kC_tr w1 (kC_kp k2 (by simp))⟩ (fun S rm => ?_) ok
    · have he : lg_cmp (lN (q / 100000 ^ m)) 0 = 0 := by
        rw [lg_cmp_eq, h0, Nat.div_eq_of_lt (by omega)]
      unfold F7_runScript
      rw [if_neg c1, if_pos c3, if_neg (fun v => hw ((lg_cmp_lt _ _).mp v)), hlg, ob1_s, if_pos he, e1, ob1_s]
      exact e2
    · obtain ⟨f1, f2, f3, f4⟩ := rq rm 0
      obtain ⟨S5, e5, t5, k5, -⟩ := m_ct (n := n) (a := 114) (c := 115) (x := 0) (y := 0) (by omega) (by omega) (by omega) (by omega) (by omega) f4 h20 (by omega)
      obtain ⟨S6, e6, k6, kk6⟩ := r2 n S5 (by omega) t5
      have k7 : kp [111, 115, 120, 121, 122] (qup S 111 0 (nI 0)) S6 := kp_tr k5 k6 (by simp) (fun _ h => h)
      have kk7 : k1 [15] (qup S 111 0 (nI 0)) S6 := k1_tr (k1_kp (Q := [15]) k5 (by decide)) kk6 (fun _ h => h) (fun _ h => h)
      obtain ⟨g1, g2⟩ := RM_rd f1 k7 kk7 (by simp) (by decide) (by decide) (by simp)
      refine ⟨S6, ?_, g1, kM_tr f2 g2, (kk7 0 (by decide)).trans f3⟩
      have hin2 : ¬ F8_in (lN q) 0 (lN (100000 ^ m) - 1) S = 0 := by
        rw [in64, if_neg hw, if_neg]
        · decide +kernel
        · rw [m_hi m1 m3, pk_lLT (by omega) hq]
          omega
      rw [m_all2 (by omega) m1 m3]
      unfold B8_runScript_32 B8_runScript_62
      rw [if_neg (hin S), if_neg hin2]
      have mp := @m_pass S (fun _ S3 => ob1 (F8_copyTown n 114 0 115 0 S3) fun S5 => B8_runScript_86 n n (nI m) (lN q) (lN (100000 ^ m)) 0 S5) (fun _ S3 => some (0, S3))
      refine Eq.trans mp ?_
      show (ob1 (F8_copyTown n 114 (nI 0) 115 (nI 0) (qup S 111 0 (nI 0))) fun S5 => B8_runScript_86 n n (nI m) (lN q) (lN (100000 ^ m)) (nI 0) S5) = some (r, S6)
      rw [e5, ob1_s]
      exact e6
end QSC
