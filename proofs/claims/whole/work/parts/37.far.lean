/-! THE MODEL'S COSTS AND DISTANCES -/
def cst (l : Nat) : Nat := if l = 0 then 0 else 100 * l + 1
def isC (S : qSt) (e : Gr) : Prop := ∀ a b, a < 9 → b < 9 → S 120 (9 * a + b) = nI (cst (e a b))
def eU (e : Gr) (a b l : Nat) : Gr := fun x y => if (x = a ∧ y = b) ∨ (x = b ∧ y = a) then l else e x y
theorem m_price {S : qSt} {a b v : Nat} (ha : a < 9) (hb : b < 9) : ∃ S2, F8_price (nI a) (nI b) (nI v) S = some S2 ∧ kp [120] S S2 ∧ ∀ k, S2 120 k = if k = 9 * b + a ∨ k = 9 * a + b then nI v else S 120 k := by
  refine ⟨qup (qup S 120 (9 * a + b) (nI v)) 120 (9 * b + a) (nI v), ?_, kp_up (kp_up kp_rfl (by simp)) (by simp), fun k => ?_⟩
  · unfold F8_price
    simp (disch := omega) only [if_pos, if_neg, ite_true, ite_false, not_true_eq_false, Bool.false_eq_true, not_false_eq_true, eq_self, obs, ob1, ob2, obx, opx, li_0, li_1, li_2, li_3, li_4, li_5, li_6, li_7, li_8, li_9, li_10, li_14, li_16, li_20, li_21, li_24, li_25, li_32, li_44, li_48, li_57, li_60, li_64, li_81, li_84, li_99, li_100, li_101, li_108, li_111, li_115, li_116, li_120, li_140, li_255, li_500, li_999, li_1000, li_1092, li_1176, li_10000, li_100000, li_1000000, li_N, li_M, nI_add, pk_mul, pk_sub, pk_div, pk_rem, k_mod, nI_clamp, nI_leI, nI_ltI, nI_eq, qin_nI, nI_m1, nN_lt, nN_lt2, nN_le, nN_le2, nN_eq, nN_eq2, qin_nN, Option.some.injEq, Prod.mk.injEq, Sum.inl.injEq]
  · by_cases h1 : k = 9 * b + a
    · subst h1
      rw [qup_s]
      simp
    · rw [qup_k _ _ _ h1]
      by_cases h2 : k = 9 * a + b
      · subst h2
        rw [qup_s]
        simp
      · rw [qup_k _ _ _ h2]
        simp [h1, h2]
theorem m_price_C {S : qSt} {a b l : Nat} {e : Gr} (ha : a < 9) (hb : b < 9) (hC : isC S e) : ∃ S2, F8_price (nI a) (nI b) (nI (cst l)) S = some S2 ∧ kp [120] S S2 ∧ isC S2 (eU e a b l) := by
  obtain ⟨S2, h1, h2, h3⟩ := m_price (S := S) (v := cst l) ha hb
  refine ⟨S2, h1, h2, fun x y hx hy => ?_⟩
  rw [h3]
  unfold eU
  by_cases q : (x = a ∧ y = b) ∨ (x = b ∧ y = a)
  · rw [if_pos q, if_pos (by omega)]
  · rw [if_neg q, if_neg (by omega)]
    exact hC x y hx hy
theorem m_lc_zero {S0 : qSt} {n a : Nat} {but : Int32} : ∀ j k f S, k + j = 81 → j < f → kp [120] S0 S → (∀ x, x < k → S 120 x = nI 0) → ∃ S2, B8_layCosts_2 n a f but (nI k) S = B8_layCosts_21 n a but S2 ∧ kp [120] S0 S2 ∧ ∀ x, x < 81 → S2 120 x = nI 0 := by
  intro j
  induction j with
  | zero =>
    intro k f S hs hf hkp hW
    obtain ⟨g, rfl, hg⟩ := fuel_s hf
    refine ⟨S, ?_, hkp, fun x hx => hW x (by omega)⟩
    rw [B8_layCosts_2]
    simp (disch := omega) only [if_pos, if_neg, ite_true, ite_false, not_true_eq_false, Bool.false_eq_true, not_false_eq_true, eq_self, obs, ob1, ob2, obx, opx, li_0, li_1, li_2, li_3, li_4, li_5, li_6, li_7, li_8, li_9, li_10, li_14, li_16, li_20, li_21, li_24, li_25, li_32, li_44, li_48, li_57, li_60, li_64, li_81, li_84, li_99, li_100, li_101, li_108, li_111, li_115, li_116, li_120, li_140, li_255, li_500, li_999, li_1000, li_1092, li_1176, li_10000, li_100000, li_1000000, li_N, li_M, nI_add, pk_mul, pk_sub, pk_div, pk_rem, k_mod, nI_clamp, nI_leI, nI_ltI, nI_eq, qin_nI, nI_m1, nN_lt, nN_lt2, nN_le, nN_le2, nN_eq, nN_eq2, qin_nN, Option.some.injEq, Prod.mk.injEq, Sum.inl.injEq]
  | succ j ih =>
    intro k f S hs hf hkp hW
    obtain ⟨g, rfl, hg⟩ := fuel_s hf
    obtain ⟨S2, e1, e2⟩ := ih (k + 1) g (qup S 120 k (nI 0)) (by omega) (by omega) (kp_up hkp (by simp)) (fun x hx => by
      by_cases q : x = k
      · subst q
        rw [qup_s]
      · rw [qup_k _ _ _ q]
        exact hW x (by omega))
    refine ⟨S2, ?_, e2⟩
    rw [B8_layCosts_2, ← e1]
    simp (disch := omega) only [if_pos, if_neg, ite_true, ite_false, not_true_eq_false, Bool.false_eq_true, not_false_eq_true, eq_self, obs, ob1, ob2, obx, opx, li_0, li_1, li_2, li_3, li_4, li_5, li_6, li_7, li_8, li_9, li_10, li_14, li_16, li_20, li_21, li_24, li_25, li_32, li_44, li_48, li_57, li_60, li_64, li_81, li_84, li_99, li_100, li_101, li_108, li_111, li_115, li_116, li_120, li_140, li_255, li_500, li_999, li_1000, li_1092, li_1176, li_10000, li_100000, li_1000000, li_N, li_M, nI_add, pk_mul, pk_sub, pk_div, pk_rem, k_mod, nI_clamp, nI_leI, nI_ltI, nI_eq, qin_nI, nI_m1, nN_lt, nN_lt2, nN_le, nN_le2, nN_eq, nN_eq2, qin_nN, Option.some.injEq, Prod.mk.injEq, Sum.inl.injEq]
/-- the street left out, as the program says it -/
def bI (but : Nat) : Int32 := if but < 100 then nI but else nN
theorem bI_eq {s but : Nat} (hs : s < 100) : (nI s = bI but) ↔ s = but := by
  unfold bI
  by_cases h : but < 100
  · rw [if_pos h]
    exact nI_eq (by omega) (by omega)
  · rw [if_neg h]
    exact ⟨fun q => (nN_ne (by omega) q).elim, fun q => by omega⟩
theorem m_lc_loop {S0 : qSt} {n m but : Nat} {e : Gr} {T : Tn} (hk : (kd m).2 = 84) (hm : m ≠ 120) (hT : isM S0 m 0 T) (hv : vT T) (hG : isG e T but) : ∀ j s f S, s + j = T 0 1 → j < f → kp [120] S0 S → (∀ a b, a < 9 → b < 9 → (S 120 (9 * a + b) = nI (cst (e a b)) ∧ e a b ≠ 0) ∨ (S 120 (9 * a + b) = nI 0 ∧ ∀ i, i < s → T 4 i = 0 → i ≠ but → ¬ jn T i a b)) → ∃ S2, B8_layCosts_23 n m f (bI but) (nI s) S = some S2 ∧ kp [120] S0 S2 ∧ isC S2 e := by
  have hn := hv.2.2.1
  have h9 := hv.2.1
  have t1 : S0 m 1 = nI (T 0 1) := hT.2.1
  intro j
  induction j with
  | zero =>
    intro s f S hs hf hkp hi
    obtain ⟨g, rfl, hg⟩ := fuel_s hf
    have hm1 : S m = S0 m := hkp m (by simpa using hm)
    refine ⟨S, ?_, hkp, fun a b ha hb => ?_⟩
    · rw [B8_layCosts_23]
      simp (disch := omega) only [if_pos, if_neg, ite_true, ite_false, not_true_eq_false, Bool.false_eq_true, not_false_eq_true, eq_self, obs, ob1, ob2, obx, opx, li_0, li_1, li_2, li_3, li_4, li_5, li_6, li_7, li_8, li_9, li_10, li_14, li_16, li_20, li_21, li_24, li_25, li_32, li_44, li_48, li_57, li_60, li_64, li_81, li_84, li_99, li_100, li_101, li_108, li_111, li_115, li_116, li_120, li_140, li_255, li_500, li_999, li_1000, li_1092, li_1176, li_10000, li_100000, li_1000000, li_N, li_M, nI_add, pk_mul, pk_sub, pk_div, pk_rem, k_mod, nI_clamp, nI_leI, nI_ltI, nI_eq, qin_nI, nI_m1, nN_lt, nN_lt2, nN_le, nN_le2, nN_eq, nN_eq2, qin_nN, Option.some.injEq, Prod.mk.injEq, Sum.inl.injEq, hk, hm1, t1]
    · rcases hi a b ha hb with h | ⟨h1, h2⟩
      · exact h.1
      · have : e a b = 0 := Classical.byContradiction fun q => by
          obtain ⟨i, g1, g2, g3, g4, g5⟩ := hG.2 a b q
          exact h2 i (by omega) g2 g3 g5
        rw [h1, this]
        rfl
  | succ j ih =>
    intro s f S hs hf hkp hi
    obtain ⟨g, rfl, hg⟩ := fuel_s hf
    have hm1 : S m = S0 m := hkp m (by simpa using hm)
    obtain ⟨q1, q3, q4⟩ := hT.2.2.2.2 s (by omega)
    obtain ⟨v1, v2, v3, v4, v5⟩ := hv.2.2.2.2.2.2.1 s (by omega)
    simp only [Nat.zero_add] at q1 q3 q4
    by_cases c : T 4 s = 0 ∧ s ≠ but
    · obtain ⟨c1, c2⟩ := c
      have ce : cst (T 3 s) = 100 * T 3 s + 1 := if_neg (by omega)
      have key : ∃ S1, F8_price (S0 m (4 + s)) (S0 m (24 + s)) (nI (100 * T 3 s + 1)) S = some S1 ∧ kp [120] S S1 ∧ ∀ k, S1 120 k = if k = 9 * T 2 s + T 1 s ∨ k = 9 * T 1 s + T 2 s then nI (100 * T 3 s + 1) else S 120 k := by
        rcases q1 with ⟨q1, q2⟩ | ⟨q1, q2⟩
        · rw [q1, q2]
          exact m_price (by omega) (by omega)
        · rw [q1, q2]
          obtain ⟨S1, g1, g2, g3⟩ := m_price (S := S) (a := T 2 s) (b := T 1 s) (v := 100 * T 3 s + 1) (by omega) (by omega)
          refine ⟨S1, g1, g2, fun k => ?_⟩
          rw [g3]
          simp only [Or.comm]
      obtain ⟨S1, g1, g2, g3⟩ := key
      obtain ⟨S2, e1, e2⟩ := ih (s + 1) g S1 (by omega) (by omega) (kp_tr hkp g2 (fun _ h => h) (fun _ h => h)) (fun a b ha hb => by
        rw [g3]
        by_cases q : jn T s a b
        · left
          have := isG_jn hG (by omega) c1 c2 q
          rw [this, ce, if_pos (by unfold jn at q; omega)]
          exact ⟨rfl, by omega⟩
        · rw [if_neg (by unfold jn at q; omega)]
          rcases hi a b ha hb with h | ⟨h1, h2⟩
          · exact Or.inl h
          · refine Or.inr ⟨h1, fun i g4 g5 g6 => ?_⟩
            by_cases z : i = s
            · rw [z]
              exact q
            · exact h2 i (by omega) g5 g6)
      refine ⟨S2, ?_, e2⟩
      rw [B8_layCosts_23]
      simp (disch := omega) only [if_pos, if_neg, ite_true, ite_false, not_true_eq_false, Bool.false_eq_true, not_false_eq_true, eq_self, obs, ob1, ob2, obx, opx, li_0, li_1, li_2, li_3, li_4, li_5, li_6, li_7, li_8, li_9, li_10, li_14, li_16, li_20, li_21, li_24, li_25, li_32, li_44, li_48, li_57, li_60, li_64, li_81, li_84, li_99, li_100, li_101, li_108, li_111, li_115, li_116, li_120, li_140, li_255, li_500, li_999, li_1000, li_1092, li_1176, li_10000, li_100000, li_1000000, li_N, li_M, nI_add, pk_mul, pk_sub, pk_div, pk_rem, k_mod, nI_clamp, nI_leI, nI_ltI, nI_eq, qin_nI, nI_m1, nN_lt, nN_lt2, nN_le, nN_le2, nN_eq, nN_eq2, qin_nN, Option.some.injEq, Prod.mk.injEq, Sum.inl.injEq, hk, hm1, t1, q3, q4, c1]
      have nb : ¬ nI s = bI but := fun z => c2 ((bI_eq (by omega)).mp z)
      rw [if_neg nb]
      simp (disch := omega) only [if_pos, if_neg, ite_true, ite_false, not_true_eq_false, Bool.false_eq_true, not_false_eq_true, eq_self, obs, ob1, ob2, obx, opx, li_0, li_1, li_2, li_3, li_4, li_5, li_6, li_7, li_8, li_9, li_10, li_14, li_16, li_20, li_21, li_24, li_25, li_32, li_44, li_48, li_57, li_60, li_64, li_81, li_84, li_99, li_100, li_101, li_108, li_111, li_115, li_116, li_120, li_140, li_255, li_500, li_999, li_1000, li_1092, li_1176, li_10000, li_100000, li_1000000, li_N, li_M, nI_add, pk_mul, pk_sub, pk_div, pk_rem, k_mod, nI_clamp, nI_leI, nI_ltI, nI_eq, qin_nI, nI_m1, nN_lt, nN_lt2, nN_le, nN_le2, nN_eq, nN_eq2, qin_nN, Option.some.injEq, Prod.mk.injEq, Sum.inl.injEq, hk, hm1, t1, q3, q4, c1, g1, B8_layCosts_70]
      exact e1
    · obtain ⟨S2, e1, e2⟩ := ih (s + 1) g S (by omega) (by omega) hkp (fun a b ha hb => by
        rcases hi a b ha hb with h | ⟨h1, h2⟩
        · exact Or.inl h
        · refine Or.inr ⟨h1, fun i g4 g5 g6 => ?_⟩
          by_cases z : i = s
          · rw [z] at g5 g6
            exact absurd ⟨g5, g6⟩ c
          · exact h2 i (by omega) g5 g6)
      refine ⟨S2, ?_, e2⟩
      rw [B8_layCosts_23]
      simp (disch := omega) only [if_pos, if_neg, ite_true, ite_false, not_true_eq_false, Bool.false_eq_true, not_false_eq_true, eq_self, obs, ob1, ob2, obx, opx, li_0, li_1, li_2, li_3, li_4, li_5, li_6, li_7, li_8, li_9, li_10, li_14, li_16, li_20, li_21, li_24, li_25, li_32, li_44, li_48, li_57, li_60, li_64, li_81, li_84, li_99, li_100, li_101, li_108, li_111, li_115, li_116, li_120, li_140, li_255, li_500, li_999, li_1000, li_1092, li_1176, li_10000, li_100000, li_1000000, li_N, li_M, nI_add, pk_mul, pk_sub, pk_div, pk_rem, k_mod, nI_clamp, nI_leI, nI_ltI, nI_eq, qin_nI, nI_m1, nN_lt, nN_lt2, nN_le, nN_le2, nN_eq, nN_eq2, qin_nN, Option.some.injEq, Prod.mk.injEq, Sum.inl.injEq, hk, hm1, t1, q4, B8_layCosts_70]
      by_cases c1 : T 4 s = 0
      · have : nI s = bI but := (bI_eq (by omega)).mpr (by omega)
        rw [if_neg (by simpa using c1), if_pos this]
        exact e1
      · rw [if_pos c1]
        exact e1
theorem m_lc {S : qSt} {n m but : Nat} {e : Gr} {T : Tn} (hk : (kd m).2 = 84) (hm : m ≠ 120) (hT : isM S m 0 T) (hv : vT T) (hG : isG e T but) (hn : 100 ≤ n) : ∃ S2, F8_layCosts n m (bI but) S = some S2 ∧ kp [120] S S2 ∧ isC S2 e := by
  have h0 := hv.2.2.1
  obtain ⟨S1, e1, k1, z1⟩ := m_lc_zero (S0 := S) (n := n) (a := m) (but := bI but) 81 0 n S (by omega) (by omega) kp_rfl (fun x hx => by omega)
  obtain ⟨S2, e2, k2, z2⟩ := m_lc_loop (S0 := S) (n := n) hk hm hT hv hG (T 0 1) 0 n S1 (by omega) (by omega) k1 (fun a b ha hb => Or.inr ⟨z1 _ (by omega), fun i hi => by omega⟩)
  refine ⟨S2, ?_, k2, z2⟩
  unfold F8_layCosts
  rw [show (0 : Int32) = nI 0 from rfl, e1]
  exact e2
def s9 (d : Nat → Nat) : Nat := d 0 + d 1 + d 2 + d 3 + d 4 + d 5 + d 6 + d 7 + d 8
theorem s9_U {d : Nat → Nat} {c v : Nat} (hc : c < 9) (h : v < d c) : s9 (fU d c v) < s9 d := by
  unfold s9 fU
  rcases (by omega : c = 0 ∨ c = 1 ∨ c = 2 ∨ c = 3 ∨ c = 4 ∨ c = 5 ∨ c = 6 ∨ c = 7 ∨ c = 8) with rfl | rfl | rfl | rfl | rfl | rfl | rfl | rfl | rfl <;> simp <;> omega
theorem m_f_in {S0 : qSt} {n m t : Nat} {e : Gr} {K : Int32 → qSt → Option qSt} (he : gOK e) (hC : isC S0 e) : ∀ j k f S d b, k + j = 81 → j < f → kp [121] S0 S → isW S 121 d → gSup 100 e t d → (b = 0 → ∀ i, i < k → e (i / 9) (i % 9) ≠ 0 → d (i / 9) ≤ 100 * e (i / 9) (i % 9) + 1 + d (i % 9)) → ∃ b2 S2 d2, B8_layFar_40 n m K f (nI b) (nI k) S = K (nI b2) S2 ∧ kp [121] S0 S2 ∧ isW S2 121 d2 ∧ gSup 100 e t d2 ∧ ((b2 = b ∧ d2 = d) ∨ (b2 = 1 ∧ s9 d2 < s9 d)) ∧ (b2 = 0 → gSta 100 e d2) := by
  have hU : gU = 1000000 := rfl
  intro j
  induction j with
  | zero =>
    intro k f S d b hs hf hkp hW hd ib
    obtain ⟨g, rfl, hg⟩ := fuel_s hf
    refine ⟨b, S, d, ?_, hkp, hW, hd, Or.inl ⟨rfl, rfl⟩, fun hb c x hcx => ?_⟩
    · rw [B8_layFar_40]
      simp (disch := omega) only [if_pos, if_neg, ite_true, ite_false, not_true_eq_false, Bool.false_eq_true, not_false_eq_true, eq_self, obs, ob1, ob2, obx, opx, li_0, li_1, li_2, li_3, li_4, li_5, li_6, li_7, li_8, li_9, li_10, li_14, li_16, li_20, li_21, li_24, li_25, li_32, li_44, li_48, li_57, li_60, li_64, li_81, li_84, li_99, li_100, li_101, li_108, li_111, li_115, li_116, li_120, li_140, li_255, li_500, li_999, li_1000, li_1092, li_1176, li_10000, li_100000, li_1000000, li_N, li_M, nI_add, pk_mul, pk_sub, pk_div, pk_rem, k_mod, nI_clamp, nI_leI, nI_ltI, nI_eq, qin_nI, nI_m1, nN_lt, nN_lt2, nN_le, nN_le2, nN_eq, nN_eq2, qin_nN, Option.some.injEq, Prod.mk.injEq, Sum.inl.injEq, B8_layFar_117]
    · have h9 := he.2.2.2 c x hcx
      have := ib hb (9 * c + x) (by omega)
      rw [show (9 * c + x) / 9 = c by omega, show (9 * c + x) % 9 = x by omega] at this
      exact this hcx
  | succ j ih =>
    intro k f S d b hs hf hkp hW hd ib
    obtain ⟨g, rfl, hg⟩ := fuel_s hf
    have hc := hC (k / 9) (k % 9) (by omega) (by omega)
    rw [show 9 * (k / 9) + k % 9 = k by omega] at hc
    rw [← hkp 120 (by decide)] at hc
    have w1 := hW (k / 9) (by omega)
    have w2 := hW (k % 9) (by omega)
    have u1 := hd.2.1 (k / 9) (by omega)
    have u2 := hd.2.1 (k % 9) (by omega)
    have e99 := he.2.2.1 (k / 9) (k % 9)
    by_cases q : e (k / 9) (k % 9) = 0
    · rw [q] at hc
      obtain ⟨b2, S2, d2, f1, f2⟩ := ih (k + 1) g S d b (by omega) (by omega) hkp hW hd (fun hb i hi hi0 => by
        by_cases z : i = k
        · rw [z] at hi0
          exact absurd q hi0
        · exact ib hb i (by omega) hi0)
      refine ⟨b2, S2, d2, ?_, f2⟩
      rw [B8_layFar_40]
      rw [show cst 0 = 0 from rfl] at hc
      simp (disch := omega) only [if_pos, if_neg, ite_true, ite_false, not_true_eq_false, Bool.false_eq_true, not_false_eq_true, eq_self, obs, ob1, ob2, obx, opx, li_0, li_1, li_2, li_3, li_4, li_5, li_6, li_7, li_8, li_9, li_10, li_14, li_16, li_20, li_21, li_24, li_25, li_32, li_44, li_48, li_57, li_60, li_64, li_81, li_84, li_99, li_100, li_101, li_108, li_111, li_115, li_116, li_120, li_140, li_255, li_500, li_999, li_1000, li_1092, li_1176, li_10000, li_100000, li_1000000, li_N, li_M, nI_add, pk_mul, pk_sub, pk_div, pk_rem, k_mod, nI_clamp, nI_leI, nI_ltI, nI_eq, qin_nI, nI_m1, nN_lt, nN_lt2, nN_le, nN_le2, nN_eq, nN_eq2, qin_nN, Option.some.injEq, Prod.mk.injEq, Sum.inl.injEq, hc, B8_layFar_80, w1, B8_layFar_111]
      exact f1
    · have ce : cst (e (k / 9) (k % 9)) = 100 * e (k / 9) (k % 9) + 1 := if_neg q
      rw [ce] at hc
      by_cases lt : 100 * e (k / 9) (k % 9) + 1 + d (k % 9) < d (k / 9)
      · have hs9 := s9_U (c := k / 9) (by omega) lt
        obtain ⟨b2, S2, d2, f1, f2, f3, f4, f5, f6⟩ := ih (k + 1) g (qup S 121 (k / 9) (nI (100 * e (k / 9) (k % 9) + 1 + d (k % 9)))) (fU d (k / 9) (100 * e (k / 9) (k % 9) + 1 + d (k % 9))) 1 (by omega) (by omega) (kp_up hkp (by simp)) (isW_up hW) (gSup_relax he hd q lt) (fun hb => absurd hb (by omega))
        refine ⟨b2, S2, d2, ?_, f2, f3, f4, Or.inr ?_, f6⟩
        · rw [B8_layFar_40]
          simp (disch := omega) only [if_pos, if_neg, ite_true, ite_false, not_true_eq_false, Bool.false_eq_true, not_false_eq_true, eq_self, obs, ob1, ob2, obx, opx, li_0, li_1, li_2, li_3, li_4, li_5, li_6, li_7, li_8, li_9, li_10, li_14, li_16, li_20, li_21, li_24, li_25, li_32, li_44, li_48, li_57, li_60, li_64, li_81, li_84, li_99, li_100, li_101, li_108, li_111, li_115, li_116, li_120, li_140, li_255, li_500, li_999, li_1000, li_1092, li_1176, li_10000, li_100000, li_1000000, li_N, li_M, nI_add, pk_mul, pk_sub, pk_div, pk_rem, k_mod, nI_clamp, nI_leI, nI_ltI, nI_eq, qin_nI, nI_m1, nN_lt, nN_lt2, nN_le, nN_le2, nN_eq, nN_eq2, qin_nN, Option.some.injEq, Prod.mk.injEq, Sum.inl.injEq, hc, B8_layFar_80, w1, w2, B8_layFar_111]
          exact f1
        · rcases f5 with ⟨g1, g2⟩ | ⟨g1, g2⟩
          · rw [g2]
            exact ⟨g1, hs9⟩
          · exact ⟨g1, by omega⟩
      · obtain ⟨b2, S2, d2, f1, f2⟩ := ih (k + 1) g S d b (by omega) (by omega) hkp hW hd (fun hb i hi hi0 => by
          by_cases z : i = k
          · rw [z]
            omega
          · exact ib hb i (by omega) hi0)
        refine ⟨b2, S2, d2, ?_, f2⟩
        rw [B8_layFar_40]
        simp (disch := omega) only [if_pos, if_neg, ite_true, ite_false, not_true_eq_false, Bool.false_eq_true, not_false_eq_true, eq_self, obs, ob1, ob2, obx, opx, li_0, li_1, li_2, li_3, li_4, li_5, li_6, li_7, li_8, li_9, li_10, li_14, li_16, li_20, li_21, li_24, li_25, li_32, li_44, li_48, li_57, li_60, li_64, li_81, li_84, li_99, li_100, li_101, li_108, li_111, li_115, li_116, li_120, li_140, li_255, li_500, li_999, li_1000, li_1092, li_1176, li_10000, li_100000, li_1000000, li_N, li_M, nI_add, pk_mul, pk_sub, pk_div, pk_rem, k_mod, nI_clamp, nI_leI, nI_ltI, nI_eq, qin_nI, nI_m1, nN_lt, nN_lt2, nN_le, nN_le2, nN_eq, nN_eq2, qin_nN, Option.some.injEq, Prod.mk.injEq, Sum.inl.injEq, hc, B8_layFar_80, w1, w2, B8_layFar_111]
        exact f1
theorem m_f_out {S0 : qSt} {n m t : Nat} {e : Gr} {D : Nat → Nat} (he : gOK e) (hC : isC S0 e) (hD : gD 100 e t D) (hn : 100 ≤ n) : ∀ v f S d b, s9 d = v → v + 1 < f → kp [121] S0 S → isW S 121 d → gSup 100 e t d → (b = 0 → gSta 100 e d) → b ≤ 1 → ∃ S2, B8_layFar_31 n m f (nI b) S = some S2 ∧ kp [121] S0 S2 ∧ isW S2 121 D := by
  intro v
  induction v using Nat.strongRecOn with
  | ind v ih =>
    intro f S d b hv hf hkp hW hd ib hb
    obtain ⟨g, rfl, hg⟩ := fuel_s hf
    by_cases h0 : b = 0
    · refine ⟨S, ?_, hkp, fun c hc => ?_⟩
      · rw [B8_layFar_31]
        simp (disch := omega) only [if_pos, if_neg, ite_true, ite_false, not_true_eq_false, Bool.false_eq_true, not_false_eq_true, eq_self, obs, ob1, ob2, obx, opx, li_0, li_1, li_2, li_3, li_4, li_5, li_6, li_7, li_8, li_9, li_10, li_14, li_16, li_20, li_21, li_24, li_25, li_32, li_44, li_48, li_57, li_60, li_64, li_81, li_84, li_99, li_100, li_101, li_108, li_111, li_115, li_116, li_120, li_140, li_255, li_500, li_999, li_1000, li_1092, li_1176, li_10000, li_100000, li_1000000, li_N, li_M, nI_add, pk_mul, pk_sub, pk_div, pk_rem, k_mod, nI_clamp, nI_leI, nI_ltI, nI_eq, qin_nI, nI_m1, nN_lt, nN_lt2, nN_le, nN_le2, nN_eq, nN_eq2, qin_nN, Option.some.injEq, Prod.mk.injEq, Sum.inl.injEq]
      · rw [hW c hc, gD_uniq he ⟨hd, ib h0⟩ hD c hc]
    · obtain ⟨b2, S2, d2, f1, f2, f3, f4, f5, f6⟩ := m_f_in (n := n) (m := m) (K := B8_layFar_31 n m g) he hC 81 0 n S d 0 (by omega) (by omega) hkp hW hd (fun _ i hi => by omega)
      have : B8_layFar_31 n m (g + 1) (nI b) S = B8_layFar_31 n m g (nI b2) S2 := by
        rw [B8_layFar_31]
        simp (disch := omega) only [if_pos, if_neg, ite_true, ite_false, not_true_eq_false, Bool.false_eq_true, not_false_eq_true, eq_self, obs, ob1, ob2, obx, opx, li_0, li_1, li_2, li_3, li_4, li_5, li_6, li_7, li_8, li_9, li_10, li_14, li_16, li_20, li_21, li_24, li_25, li_32, li_44, li_48, li_57, li_60, li_64, li_81, li_84, li_99, li_100, li_101, li_108, li_111, li_115, li_116, li_120, li_140, li_255, li_500, li_999, li_1000, li_1092, li_1176, li_10000, li_100000, li_1000000, li_N, li_M, nI_add, pk_mul, pk_sub, pk_div, pk_rem, k_mod, nI_clamp, nI_leI, nI_ltI, nI_eq, qin_nI, nI_m1, nN_lt, nN_lt2, nN_le, nN_le2, nN_eq, nN_eq2, qin_nN, Option.some.injEq, Prod.mk.injEq, Sum.inl.injEq]
        exact f1
      rw [this]
      rcases f5 with ⟨g1, g2⟩ | ⟨g1, g2⟩
      · obtain ⟨h, rfl, hh⟩ := fuel_s hg
        refine ⟨S2, ?_, f2, fun c hc => ?_⟩
        · rw [B8_layFar_31, g1]
          simp (disch := omega) only [if_pos, if_neg, ite_true, ite_false, not_true_eq_false, Bool.false_eq_true, not_false_eq_true, eq_self, obs, ob1, ob2, obx, opx, li_0, li_1, li_2, li_3, li_4, li_5, li_6, li_7, li_8, li_9, li_10, li_14, li_16, li_20, li_21, li_24, li_25, li_32, li_44, li_48, li_57, li_60, li_64, li_81, li_84, li_99, li_100, li_101, li_108, li_111, li_115, li_116, li_120, li_140, li_255, li_500, li_999, li_1000, li_1092, li_1176, li_10000, li_100000, li_1000000, li_N, li_M, nI_add, pk_mul, pk_sub, pk_div, pk_rem, k_mod, nI_clamp, nI_leI, nI_ltI, nI_eq, qin_nI, nI_m1, nN_lt, nN_lt2, nN_le, nN_le2, nN_eq, nN_eq2, qin_nN, Option.some.injEq, Prod.mk.injEq, Sum.inl.injEq]
        · rw [f3 c hc, gD_uniq he ⟨f4, f6 g1⟩ hD c hc]
      · exact ih (s9 d2) (by omega) g S2 d2 b2 rfl (by omega) f2 f3 f4 f6 (by omega)
theorem m_f_init {S0 : qSt} {n m t : Nat} : ∀ j c f S, c + j = 9 → j < f → kp [121] S0 S → (∀ x, x < c → S 121 x = nI gU) → ∃ S2, B8_layFar_2 n m f (nI t) (nI c) S = B8_layFar_22 n m (nI t) S2 ∧ kp [121] S0 S2 ∧ isW S2 121 (fun _ => gU) := by
  have hU : nI gU = nI 1000000 := rfl
  intro j
  induction j with
  | zero =>
    intro c f S hs hf hkp hW
    obtain ⟨g, rfl, hg⟩ := fuel_s hf
    refine ⟨S, ?_, hkp, fun x hx => hW x (by omega)⟩
    rw [B8_layFar_2]
    simp (disch := omega) only [if_pos, if_neg, ite_true, ite_false, not_true_eq_false, Bool.false_eq_true, not_false_eq_true, eq_self, obs, ob1, ob2, obx, opx, li_0, li_1, li_2, li_3, li_4, li_5, li_6, li_7, li_8, li_9, li_10, li_14, li_16, li_20, li_21, li_24, li_25, li_32, li_44, li_48, li_57, li_60, li_64, li_81, li_84, li_99, li_100, li_101, li_108, li_111, li_115, li_116, li_120, li_140, li_255, li_500, li_999, li_1000, li_1092, li_1176, li_10000, li_100000, li_1000000, li_N, li_M, nI_add, pk_mul, pk_sub, pk_div, pk_rem, k_mod, nI_clamp, nI_leI, nI_ltI, nI_eq, qin_nI, nI_m1, nN_lt, nN_lt2, nN_le, nN_le2, nN_eq, nN_eq2, qin_nN, Option.some.injEq, Prod.mk.injEq, Sum.inl.injEq]
  | succ j ih =>
    intro c f S hs hf hkp hW
    obtain ⟨g, rfl, hg⟩ := fuel_s hf
    obtain ⟨S2, e1, e2⟩ := ih (c + 1) g (qup S 121 c (nI gU)) (by omega) (by omega) (kp_up hkp (by simp)) (fun x hx => by
      by_cases q : x = c
      · subst q
        rw [qup_s]
      · rw [qup_k _ _ _ q]
        exact hW x (by omega))
    refine ⟨S2, ?_, e2⟩
    rw [B8_layFar_2, ← e1]
    simp (disch := omega) only [if_pos, if_neg, ite_true, ite_false, not_true_eq_false, Bool.false_eq_true, not_false_eq_true, eq_self, obs, ob1, ob2, obx, opx, li_0, li_1, li_2, li_3, li_4, li_5, li_6, li_7, li_8, li_9, li_10, li_14, li_16, li_20, li_21, li_24, li_25, li_32, li_44, li_48, li_57, li_60, li_64, li_81, li_84, li_99, li_100, li_101, li_108, li_111, li_115, li_116, li_120, li_140, li_255, li_500, li_999, li_1000, li_1092, li_1176, li_10000, li_100000, li_1000000, li_N, li_M, nI_add, pk_mul, pk_sub, pk_div, pk_rem, k_mod, nI_clamp, nI_leI, nI_ltI, nI_eq, qin_nI, nI_m1, nN_lt, nN_lt2, nN_le, nN_le2, nN_eq, nN_eq2, qin_nN, Option.some.injEq, Prod.mk.injEq, Sum.inl.injEq, hU]
theorem m_far {S : qSt} {n m t : Nat} {e : Gr} {D : Nat → Nat} (he : gOK e) (hC : isC S e) (hD : gD 100 e t D) (ht : t < 9) (hn : 100000000 ≤ n) : ∃ S2, F8_layFar n m (nI t) S = some S2 ∧ kp [121] S S2 ∧ isW S2 121 D := by
  obtain ⟨S1, e1, k1, w1⟩ := m_f_init (S0 := S) (n := n) (m := m) (t := t) 9 0 n S (by omega) (by omega) kp_rfl (fun x hx => by omega)
  have hs : s9 (fU (fun _ => gU) t 0) ≤ 9000000 := by
    have : s9 (fun _ => gU) = 9000000 := by decide +kernel
    have h2 := s9_U (d := fun _ => gU) (c := t) (v := 0) ht (by decide +kernel)
    omega
  obtain ⟨S2, e2, k2, w2⟩ := m_f_out (n := n) (m := m) he hC hD (by omega) _ n (qup S1 121 t (nI 0)) (fU (fun _ => gU) t 0) 1 rfl (by omega) (kp_up k1 (by simp)) (isW_up w1) ⟨fU_s, fun c hc => by show (if c = t then 0 else gU) ≤ gU; split <;> omega, fun c hc hct => Or.inl (fU_n hct)⟩ (fun h => by omega) (by omega)
  refine ⟨S2, ?_, k2, w2⟩
  unfold F8_layFar
  rw [show (0 : Int32) = nI 0 from rfl, e1]
  unfold B8_layFar_22
  simp (disch := omega) only [if_pos, if_neg, ite_true, ite_false, not_true_eq_false, Bool.false_eq_true, not_false_eq_true, eq_self, obs, ob1, ob2, obx, opx, li_0, li_1, li_2, li_3, li_4, li_5, li_6, li_7, li_8, li_9, li_10, li_14, li_16, li_20, li_21, li_24, li_25, li_32, li_44, li_48, li_57, li_60, li_64, li_81, li_84, li_99, li_100, li_101, li_108, li_111, li_115, li_116, li_120, li_140, li_255, li_500, li_999, li_1000, li_1092, li_1176, li_10000, li_100000, li_1000000, li_N, li_M, nI_add, pk_mul, pk_sub, pk_div, pk_rem, k_mod, nI_clamp, nI_leI, nI_ltI, nI_eq, qin_nI, nI_m1, nN_lt, nN_lt2, nN_le, nN_le2, nN_eq, nN_eq2, qin_nN, Option.some.injEq, Prod.mk.injEq, Sum.inl.injEq]
  exact e2
theorem m_len {S : qSt} {x : Nat} (h : x ≤ gU) : F8_lengthOf (nI x) S = if x = gU then nN else nI (x / 100) := by
  have hU : gU = 1000000 := rfl
  unfold F8_lengthOf
  simp (disch := omega) only [if_pos, if_neg, ite_true, ite_false, not_true_eq_false, Bool.false_eq_true, not_false_eq_true, eq_self, obs, ob1, ob2, obx, opx, li_0, li_1, li_2, li_3, li_4, li_5, li_6, li_7, li_8, li_9, li_10, li_14, li_16, li_20, li_21, li_24, li_25, li_32, li_44, li_48, li_57, li_60, li_64, li_81, li_84, li_99, li_100, li_101, li_108, li_111, li_115, li_116, li_120, li_140, li_255, li_500, li_999, li_1000, li_1092, li_1176, li_10000, li_100000, li_1000000, li_N, li_M, nI_add, pk_mul, pk_sub, pk_div, pk_rem, k_mod, nI_clamp, nI_leI, nI_ltI, nI_eq, qin_nI, nI_m1, nN_lt, nN_lt2, nN_le, nN_le2, nN_eq, nN_eq2, qin_nN, Option.some.injEq, Prod.mk.injEq, Sum.inl.injEq]
  by_cases q : x = gU
  · rw [if_pos q, if_neg (by omega)]
  · rw [if_neg q, if_pos (by omega)]
/-- a length, or none -/
def lenI (x : Nat) : Int32 := if x = gU then nN else nI (x / 100)
theorem m_best {S : qSt} {n m : Nat} {T : Tn} {e : Gr} {D : Nat → Nat} (hk : (kd m).2 = 84) (hm : m ≠ 121) (hT : isM S m 0 T) (hv : vT T) (he : gOK e) (hC : isC S e) (hD : gD 100 e (T 0 3) D) (hn : 100000000 ≤ n) : ∃ S2, F8_best n m S = some (lenI (D (T 0 2)), S2) ∧ kp [121] S S2 ∧ isW S2 121 D := by
  have h9 := hv.2.1
  have h2 := hv.2.2.2.1
  have h3 := hv.2.2.2.2.1
  obtain ⟨t0, t1, t2, t3, ts⟩ := id hT
  simp only [Nat.zero_add] at t1 t2 t3
  obtain ⟨S2, e2, k2, w2⟩ := m_far (n := n) (m := m) he hC hD (by omega) hn
  have hm2 : S2 m = S m := k2 m (by simpa using hm)
  refine ⟨S2, ?_, k2, w2⟩
  unfold F8_best
  simp (disch := omega) only [if_pos, if_neg, ite_true, ite_false, not_true_eq_false, Bool.false_eq_true, not_false_eq_true, eq_self, obs, ob1, ob2, obx, opx, li_0, li_1, li_2, li_3, li_4, li_5, li_6, li_7, li_8, li_9, li_10, li_14, li_16, li_20, li_21, li_24, li_25, li_32, li_44, li_48, li_57, li_60, li_64, li_81, li_84, li_99, li_100, li_101, li_108, li_111, li_115, li_116, li_120, li_140, li_255, li_500, li_999, li_1000, li_1092, li_1176, li_10000, li_100000, li_1000000, li_N, li_M, nI_add, pk_mul, pk_sub, pk_div, pk_rem, k_mod, nI_clamp, nI_leI, nI_ltI, nI_eq, qin_nI, nI_m1, nN_lt, nN_lt2, nN_le, nN_le2, nN_eq, nN_eq2, qin_nN, Option.some.injEq, Prod.mk.injEq, Sum.inl.injEq, hk, t3, e2, hm2, t2, w2 (T 0 2) (by omega), m_len (S := S2) (hD.1.2.1 (T 0 2) (by omega))]
  exact ⟨rfl, trivial⟩
theorem m_bb {S : qSt} {n m but : Nat} {T : Tn} {e : Gr} {D : Nat → Nat} (hk : (kd m).2 = 84) (hm : m ≠ 120 ∧ m ≠ 121) (hT : isM S m 0 T) (hv : vT T) (hG : isG e T but) (hD : gD 100 e (T 0 3) D) (hn : 100000000 ≤ n) : ∃ S2, F8_bestBut n m (bI but) S = some (lenI (D (T 0 2)), S2) ∧ kp [120, 121] S S2 ∧ isW S2 121 D ∧ isC S2 e := by
  obtain ⟨S1, e1, k1, c1⟩ := m_lc (n := n) hk hm.1 hT hv hG (by omega)
  obtain ⟨S2, e2, k2, w2⟩ := m_best (n := n) hk hm.2 (isM_kp hT k1 (by simpa using hm.1)) hv (isG_ok hv hG) c1 hD hn
  refine ⟨S2, ?_, kp_tr k1 k2 (by simp) (by simp), w2, fun a b ha hb => ?_⟩
  · unfold F8_bestBut
    simp (disch := omega) only [if_pos, if_neg, ite_true, ite_false, not_true_eq_false, Bool.false_eq_true, not_false_eq_true, eq_self, obs, ob1, ob2, obx, opx, li_0, li_1, li_2, li_3, li_4, li_5, li_6, li_7, li_8, li_9, li_10, li_14, li_16, li_20, li_21, li_24, li_25, li_32, li_44, li_48, li_57, li_60, li_64, li_81, li_84, li_99, li_100, li_101, li_108, li_111, li_115, li_116, li_120, li_140, li_255, li_500, li_999, li_1000, li_1092, li_1176, li_10000, li_100000, li_1000000, li_N, li_M, nI_add, pk_mul, pk_sub, pk_div, pk_rem, k_mod, nI_clamp, nI_leI, nI_ltI, nI_eq, qin_nI, nI_m1, nN_lt, nN_lt2, nN_le, nN_le2, nN_eq, nN_eq2, qin_nN, Option.some.injEq, Prod.mk.injEq, Sum.inl.injEq, e1, e2]
  · rw [k2 120 (by decide)]
    exact c1 a b ha hb
/-- the class's length and the model's are one -/
theorem c_lf2 {S : qSt} {o c t : Nat} {e : Gr} {D W : Nat → Nat} (he : gOK e) (ht : t < 9) (hD : gD 100 e t D) (hW16 : gD 16 e t W) (hW : isW S (o + 1) W) (hc : c < 9) : F2_lengthFrom o (nI c) S = some (lenI (D c)) := by
  rw [c_lf hW hc (hW16.1.2.1 c hc)]
  unfold lenI
  by_cases q : D c = gU
  · rw [if_pos q, if_pos ((gBoth_U he ht hD hW16 hc).mpr q)]
  · rw [if_neg q, if_neg (fun z => q ((gBoth_U he ht hD hW16 hc).mp z)), gBoth_len he ht hD hW16 hc q]
