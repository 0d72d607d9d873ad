/-! UP TO, both sides -/
theorem tU_tU {T : Tn} {x y v w : Nat} : tU (tU T x y v) x y w = tU T x y w := by
  funext i k
  unfold tU
  by_cases h : i = x ∧ k = y
  · rw [if_pos h, if_pos h]
  · rw [if_neg h, if_neg h, if_neg h]
theorem tU_self {T : Tn} {x y : Nat} : tU T x y (T x y) = T := by
  funext i k
  unfold tU
  by_cases h : i = x ∧ k = y
  · rw [if_pos h, h.1, h.2]
  · rw [if_neg h]
theorem t3 {T : Tn} {s l : Nat} : (∀ x, tU T 3 s l 0 x = T 0 x) ∧ (∀ x, tU T 3 s l 1 x = T 1 x) ∧ (∀ x, tU T 3 s l 2 x = T 2 x) ∧ (∀ x, tU T 3 s l 4 x = T 4 x) ∧ (∀ x, x ≠ s → tU T 3 s l 3 x = T 3 x) ∧ tU T 3 s l 3 s = l := by
  refine ⟨fun x => by simp (disch := omega) only [qup_e, if_pos, if_neg, ite_true, ite_false, eq_self, and_self, true_and, and_true, tU], fun x => by simp (disch := omega) only [qup_e, if_pos, if_neg, ite_true, ite_false, eq_self, and_self, true_and, and_true, tU], fun x => by simp (disch := omega) only [qup_e, if_pos, if_neg, ite_true, ite_false, eq_self, and_self, true_and, and_true, tU], fun x => by simp (disch := omega) only [qup_e, if_pos, if_neg, ite_true, ite_false, eq_self, and_self, true_and, and_true, tU], fun x h => by simp (disch := omega) only [qup_e, if_pos, if_neg, ite_true, ite_false, eq_self, and_self, true_and, and_true, tU], by simp (disch := omega) only [qup_e, if_pos, if_neg, ite_true, ite_false, eq_self, and_self, true_and, and_true, tU]⟩
theorem shr_of {e e2 : Gr} {T : Tn} {s l l2 : Nat} (hs : s < T 0 1) (hn : T 0 1 ≤ 21) (h0 : T 4 s = 0) (hG : isG e (tU T 3 s l) 9999) (hG2 : isG e2 (tU T 3 s l2) 9999) (h1 : 0 < l2) (h2 : l2 ≤ l) : shr e e2 (T 1 s) (T 2 s) l l2 := by
  have one : ∀ (e e2 : Gr) l l2, isG e (tU T 3 s l) 9999 → isG e2 (tU T 3 s l2) 9999 → ∀ a b, ¬ ((a = T 1 s ∧ b = T 2 s) ∨ (a = T 2 s ∧ b = T 1 s)) → e a b ≠ 0 → e2 a b = e a b := by
    intro e e2 l l2 hG hG2 a b hab hne
    obtain ⟨q0, q1, q2, q4, q3, -⟩ := t3 (T := T) (s := s) (l := l)
    obtain ⟨p0, p1, p2, p4, p3, -⟩ := t3 (T := T) (s := s) (l := l2)
    obtain ⟨r, g1, g2, g3, g4, g5⟩ := hG.2 a b hne
    rw [q0] at g1
    rw [q4] at g2
    unfold jn at g5
    rw [q1, q2] at g5
    have hrs : r ≠ s := fun z => by
      rw [z] at g5
      omega
    rw [q3 r hrs] at g4
    have := isG_jn hG2 (s := r) (a := a) (b := b) (by rw [p0]; exact g1) (by rw [p4]; exact g2) g3 (by
      unfold jn
      rw [p1, p2]
      exact g5)
    rw [this, p3 r hrs, g4]
  have two : ∀ (e : Gr) l, isG e (tU T 3 s l) 9999 → ∀ a b, ((a = T 1 s ∧ b = T 2 s) ∨ (a = T 2 s ∧ b = T 1 s)) → e a b = l := by
    intro e l hG a b hab
    obtain ⟨q0, q1, q2, q4, q3, q5⟩ := t3 (T := T) (s := s) (l := l)
    have := isG_jn hG (s := s) (a := a) (b := b) (by rw [q0]; exact hs) (by rw [q4]; exact h0) (by omega) (by
      unfold jn
      rw [q1, q2]
      omega)
    rw [this, q5]
  refine ⟨fun a b hab => ?_, fun a b hab => ⟨two e l hG a b hab, two e2 l2 hG2 a b hab⟩, h1, h2⟩
  by_cases q : e a b = 0
  · by_cases q2 : e2 a b = 0
    · rw [q, q2]
    · have := one e2 e l2 l hG2 hG a b hab q2
      rw [q] at this
      exact absurd this.symm q2
  · exact one e e2 l l2 hG hG2 a b hab q
/-- all lengths at once -/
def upAll (T : Tn) (s : Nat) (es : Nat → Gr) (Ds : Nat → Nat → Nat) (ps : Nat → Nat → Nat) (ks : Nat → Nat) : Prop := ∀ l, 1 ≤ l → l ≤ 99 → isG (es l) (tU T 3 s l) 9999 ∧ gD 100 (es l) (T 0 3) (Ds l) ∧ isBest (es l) (Ds l) (T 0 2) (T 0 3) (ps l) (ks l) ∧ gOK (es l) ∧ ks l ≤ 9 ∧ (∀ i, i < ks l → ps l i < 9) ∧ (∀ i j, i < ks l → j < ks l → ps l i = ps l j → i = j)
theorem up_ex {T : Tn} {s : Nat} (hv : vT T) : ∃ es Ds ps ks, upAll T s es Ds ps ks := by
  have key : ∀ l, ∃ q : Gr × (Nat → Nat) × (Nat → Nat) × Nat, 1 ≤ l → l ≤ 99 → isG q.1 (tU T 3 s l) 9999 ∧ gD 100 q.1 (T 0 3) q.2.1 ∧ isBest q.1 q.2.1 (T 0 2) (T 0 3) q.2.2.1 q.2.2.2 ∧ gOK q.1 ∧ q.2.2.2 ≤ 9 ∧ (∀ i, i < q.2.2.2 → q.2.2.1 i < 9) ∧ (∀ i j, i < q.2.2.2 → j < q.2.2.2 → q.2.2.1 i = q.2.2.1 j → i = j) := fun l => by
    by_cases h : 1 ≤ l ∧ l ≤ 99
    · obtain ⟨e, D, p, kk, hG, hD, hp, he, f1, f2, f3, -⟩ := all_ex (vK_str (s := s) hv h.1 h.2) 9999
      exact ⟨(e, D, p, kk), fun _ _ => ⟨hG, hD, hp, he, f1, f2, f3⟩⟩
    · exact ⟨(fun _ _ => 0, fun _ => 0, fun _ => 0, 0), fun h1 h2 => absurd ⟨h1, h2⟩ h⟩
  exact ⟨fun l => (Classical.choose (key l)).1, fun l => (Classical.choose (key l)).2.1, fun l => (Classical.choose (key l)).2.2.1, fun l => (Classical.choose (key l)).2.2.2, fun l h1 h2 => Classical.choose_spec (key l) h1 h2⟩
theorem up_max {U : Nat → Prop} (hd : ∀ l l2, 1 ≤ l2 → l2 ≤ l → l ≤ 99 → U l → U l2) : ∀ k, k ≤ 99 → ∃ M, M ≤ k ∧ ∀ l, 1 ≤ l → l ≤ k → (U l ↔ l ≤ M) := by
  intro k
  induction k with
  | zero => exact fun _ => ⟨0, by omega, fun l h1 h2 => by omega⟩
  | succ k ih =>
    intro hk
    obtain ⟨M, h1, h2⟩ := ih (by omega)
    by_cases q : U (k + 1)
    · exact ⟨k + 1, by omega, fun l g1 g2 => ⟨fun _ => g2, fun _ => hd (k + 1) l g1 g2 hk q⟩⟩
    · refine ⟨M, by omega, fun l g1 g2 => ?_⟩
      by_cases z : l = k + 1
      · rw [z]
        exact ⟨fun w => absurd w q, fun w => by omega⟩
      · exact h2 l g1 (by omega)
section QUT
variable {T : Tn} {s n M : Nat} {es : Nat → Gr} {Ds : Nat → Nat → Nat} {ps : Nat → Nat → Nat} {ks : Nat → Nat}
theorem c_on {S0 S : qSt} {l0 l : Nat} (hv : vT T) (hs : s < T 0 1) (ha : upAll T s es Ds ps ks) (hT : isT S 13 (tU T 3 s l0)) (hl0 : 1 ≤ l0 ∧ l0 ≤ 99) (hk : kp pW S0 S) (hn : 100 ≤ n) (h1 : 1 ≤ l) (h2 : l ≤ 99) : ∃ S2, kp pW S0 S2 ∧ isT S2 13 (tU T 3 s l) ∧ (uP (ps l) (ks l) (T 1 s) (T 2 s) → F7_isOnBestWayWithLength n (nI s) (nI l) S = some (nI 1, S2)) ∧ (¬ uP (ps l) (ks l) (T 1 s) (T 2 s) → F7_isOnBestWayWithLength n (nI s) (nI l) S = some (nI 0, S2)) := by
  have h20 := hv.2.2.1
  obtain ⟨q0, q1, q2, q4, q3, q5⟩ := t3 (T := T) (s := s) (l := l)
  obtain ⟨z0, -⟩ := t3 (T := T) (s := s) (l := l0)
  obtain ⟨hG, hD, hp, he, f1, f2, f3⟩ := ha l h1 h2
  have hv0 : vT (tU T 3 s l0) := vK_str hv hl0.1 hl0.2
  have hv1 : vT (tU T 3 s l) := vK_str hv h1 h2
  obtain ⟨S1, e1, t1, k1⟩ := c_str_y hT hv0 (by omega) (show s < tU T 3 s l0 0 1 by rw [z0]; exact hs) h1 h2
  rw [tU_tU] at t1
  obtain ⟨S2, e2, k2, r2⟩ := c_find (o := 107) (n := n) t1 (Or.inl (by omega)) hv1 (by omega) hG (by rw [q0]; omega) (by rw [q0]; exact hD) (by rw [q0, q0]; exact hp) hn
  have t2 := isT_ap t1 (o := 107) (Or.inl (by omega)) k2
  have hu := c_uses (s := s) t2 hv1 (by omega) r2 f1 f3 (by rw [q0]; exact hs)
  rw [q1, q2] at hu
  have hsS := c_hasS_y (S := S2) (o := 13) (j := s) t2.2.1 (by rw [q0]; omega) (by rw [q0]; exact hs)
  refine ⟨S2, kp_tr (kp_tr (R := pW) hk k1 (fun _ h => h) (by simp)) k2 (fun _ h => h) (by simp), t2, fun u => ?_, fun u => ?_⟩
  · unfold F7_isOnBestWayWithLength F7_isOnBestWayOfTrial
    simp (disch := omega) only [if_pos, if_neg, ite_true, ite_false, not_true_eq_false, Bool.false_eq_true, not_false_eq_true, eq_self, obs, ob1, ob2, obx, opx, li_0, li_1, li_2, li_3, li_4, li_5, li_6, li_7, li_8, li_9, li_10, li_14, li_16, li_20, li_21, li_24, li_25, li_32, li_44, li_48, li_57, li_60, li_64, li_81, li_84, li_99, li_100, li_101, li_108, li_111, li_115, li_116, li_120, li_140, li_255, li_500, li_999, li_1000, li_1092, li_1176, li_10000, li_100000, li_1000000, li_N, li_M, nI_add, pk_mul, pk_sub, pk_div, pk_rem, k_mod, nI_clamp, nI_leI, nI_ltI, nI_eq, qin_nI, nI_m1, nN_lt, nN_lt2, nN_le, nN_le2, nN_eq, nN_eq2, qin_nN, Option.some.injEq, Prod.mk.injEq, Sum.inl.injEq, e1, e2, hsS, hu.1 u]
  · unfold F7_isOnBestWayWithLength F7_isOnBestWayOfTrial
    simp (disch := omega) only [if_pos, if_neg, ite_true, ite_false, not_true_eq_false, Bool.false_eq_true, not_false_eq_true, eq_self, obs, ob1, ob2, obx, opx, li_0, li_1, li_2, li_3, li_4, li_5, li_6, li_7, li_8, li_9, li_10, li_14, li_16, li_20, li_21, li_24, li_25, li_32, li_44, li_48, li_57, li_60, li_64, li_81, li_84, li_99, li_100, li_101, li_108, li_111, li_115, li_116, li_120, li_140, li_255, li_500, li_999, li_1000, li_1092, li_1176, li_10000, li_100000, li_1000000, li_N, li_M, nI_add, pk_mul, pk_sub, pk_div, pk_rem, k_mod, nI_clamp, nI_leI, nI_ltI, nI_eq, qin_nI, nI_m1, nN_lt, nN_lt2, nN_le, nN_le2, nN_eq, nN_eq2, qin_nN, Option.some.injEq, Prod.mk.injEq, Sum.inl.injEq, e1, e2, hsS, hu.2 u]
theorem c_up_loop {S0 : qSt} (hv : vT T) (hs : s < T 0 1) (ha : upAll T s es Ds ps ks) (hM9 : M ≤ 99) (hM : ∀ l, 1 ≤ l → l ≤ 99 → (uP (ps l) (ks l) (T 1 s) (T 2 s) ↔ l ≤ M)) (hn : 100 ≤ n) : ∀ j f v l0 S, j ≤ 7 → j < f → v ≤ M → M < v + 2 ^ j → 1 ≤ l0 → l0 ≤ 99 → isT S 13 (tU T 3 s l0) → kp pW S0 S → ∃ S2, B7_upTo_37 n f (nI s) (nI v) (nI (2 ^ j / 2)) S = some (.inl (if M = 0 then nN else nI M), S2) ∧ kp pW S0 S2 := by
  have h20 := hv.2.2.1
  intro j
  induction j with
  | zero =>
    intro f v l0 S _ hf hv1 hv2 h1 h2 hT hk
    obtain ⟨g, rfl, hg⟩ := fuel_s hf
    have e : v = M := by
      rw [Nat.pow_zero] at hv2
      omega
    refine ⟨S, ?_, hk⟩
    rw [B7_upTo_37, Nat.pow_zero, show 1 / 2 = 0 from rfl]
    simp (disch := omega) only [if_pos, if_neg, ite_true, ite_false, not_true_eq_false, Bool.false_eq_true, not_false_eq_true, eq_self, obs, ob1, ob2, obx, opx, li_0, li_1, li_2, li_3, li_4, li_5, li_6, li_7, li_8, li_9, li_10, li_14, li_16, li_20, li_21, li_24, li_25, li_32, li_44, li_48, li_57, li_60, li_64, li_81, li_84, li_99, li_100, li_101, li_108, li_111, li_115, li_116, li_120, li_140, li_255, li_500, li_999, li_1000, li_1092, li_1176, li_10000, li_100000, li_1000000, li_N, li_M, nI_add, pk_mul, pk_sub, pk_div, pk_rem, k_mod, nI_clamp, nI_leI, nI_ltI, nI_eq, qin_nI, nI_m1, nN_lt, nN_lt2, nN_le, nN_le2, nN_eq, nN_eq2, qin_nN, Option.some.injEq, Prod.mk.injEq, Sum.inl.injEq, B7_upTo_63, e]
    by_cases q : M = 0
    · rw [if_neg (by simpa using q), if_pos q]
    · rw [if_pos q, if_neg q]
  | succ j ih =>
    intro f v l0 S hj hf hv1 hv2 h1 h2 hT hk
    obtain ⟨g, rfl, hg⟩ := fuel_s hf
    have p2 : 2 ^ (j + 1) = 2 ^ j * 2 := Nat.pow_succ 2 j
    have pj : 0 < 2 ^ j := Nat.two_pow_pos j
    have p64 : 2 ^ j ≤ 2 ^ 6 := Nat.pow_le_pow_right (by omega) (by omega)
    have p64' : (2 : Nat) ^ 6 = 64 := rfl
    rw [p2] at hv2
    rw [p2, Nat.mul_div_cancel _ (by omega : 0 < 2)]
    generalize hw : 2 ^ j = w at *
    have hstep : ∀ r S1, r ≤ 1 → F7_isOnBestWayWithLength n (nI s) (nI (v + w)) S = some (nI r, S1) → B7_upTo_37 n (g + 1) (nI s) (nI v) (nI w) S = if r = 0 then B7_upTo_37 n g (nI s) (nI v) (nI (w / 2)) S1 else B7_upTo_37 n g (nI s) (nI (v + w)) (nI (w / 2)) S1 := by
      intro r S1 hr1 hr
      rw [B7_upTo_37]
      by_cases q : r = 0
      · simp (disch := omega) only [if_pos, if_neg, ite_true, ite_false, not_true_eq_false, Bool.false_eq_true, not_false_eq_true, eq_self, obs, ob1, ob2, obx, opx, li_0, li_1, li_2, li_3, li_4, li_5, li_6, li_7, li_8, li_9, li_10, li_14, li_16, li_20, li_21, li_24, li_25, li_32, li_44, li_48, li_57, li_60, li_64, li_81, li_84, li_99, li_100, li_101, li_108, li_111, li_115, li_116, li_120, li_140, li_255, li_500, li_999, li_1000, li_1092, li_1176, li_10000, li_100000, li_1000000, li_N, li_M, nI_add, pk_mul, pk_sub, pk_div, pk_rem, k_mod, nI_clamp, nI_leI, nI_ltI, nI_eq, qin_nI, nI_m1, nN_lt, nN_lt2, nN_le, nN_le2, nN_eq, nN_eq2, qin_nN, Option.some.injEq, Prod.mk.injEq, Sum.inl.injEq, hr, B7_upTo_56, q]
      · simp (disch := omega) only [if_pos, if_neg, ite_true, ite_false, not_true_eq_false, Bool.false_eq_true, not_false_eq_true, eq_self, obs, ob1, ob2, obx, opx, li_0, li_1, li_2, li_3, li_4, li_5, li_6, li_7, li_8, li_9, li_10, li_14, li_16, li_20, li_21, li_24, li_25, li_32, li_44, li_48, li_57, li_60, li_64, li_81, li_84, li_99, li_100, li_101, li_108, li_111, li_115, li_116, li_120, li_140, li_255, li_500, li_999, li_1000, li_1092, li_1176, li_10000, li_100000, li_1000000, li_N, li_M, nI_add, pk_mul, pk_sub, pk_div, pk_rem, k_mod, nI_clamp, nI_leI, nI_ltI, nI_eq, qin_nI, nI_m1, nN_lt, nN_lt2, nN_le, nN_le2, nN_eq, nN_eq2, qin_nN, Option.some.injEq, Prod.mk.injEq, Sum.inl.injEq, hr, B7_upTo_56]
    by_cases big : v + w ≤ 99
    · obtain ⟨S1, k1, t1, u1, u2⟩ := c_on (n := n) hv hs ha hT ⟨h1, h2⟩ hk hn (show 1 ≤ v + w by omega) big
      by_cases u : uP (ps (v + w)) (ks (v + w)) (T 1 s) (T 2 s)
      · have := (hM (v + w) (by omega) big).mp u
        rw [hstep 1 S1 (by omega) (u1 u), if_neg (by omega)]
        exact ih g (v + w) (v + w) S1 (by omega) (by omega) this (by omega) (by omega) big t1 k1
      · have : ¬ v + w ≤ M := fun z => u ((hM (v + w) (by omega) big).mpr z)
        rw [hstep 0 S1 (by omega) (u2 u), if_pos rfl]
        exact ih g v (v + w) S1 (by omega) (by omega) hv1 (by omega) (by omega) big t1 k1
    · have hv0 : vT (tU T 3 s l0) := vK_str hv h1 h2
      obtain ⟨z0, -⟩ := t3 (T := T) (s := s) (l := l0)
      have e1 := c_str_l (y := nI (v + w)) hT hv0 (by omega : 20 ≤ 21) (show s < tU T 3 s l0 0 1 by rw [z0]; exact hs) (fun l g1 g2 z => big (by
        have := nI_inj (by omega) (by omega) z
        omega))
      rw [hstep 0 S (by omega) (by
        unfold F7_isOnBestWayWithLength
        simp (disch := omega) only [if_pos, if_neg, ite_true, ite_false, not_true_eq_false, Bool.false_eq_true, not_false_eq_true, eq_self, obs, ob1, ob2, obx, opx, li_0, li_1, li_2, li_3, li_4, li_5, li_6, li_7, li_8, li_9, li_10, li_14, li_16, li_20, li_21, li_24, li_25, li_32, li_44, li_48, li_57, li_60, li_64, li_81, li_84, li_99, li_100, li_101, li_108, li_111, li_115, li_116, li_120, li_140, li_255, li_500, li_999, li_1000, li_1092, li_1176, li_10000, li_100000, li_1000000, li_N, li_M, nI_add, pk_mul, pk_sub, pk_div, pk_rem, k_mod, nI_clamp, nI_leI, nI_ltI, nI_eq, qin_nI, nI_m1, nN_lt, nN_lt2, nN_le, nN_le2, nN_eq, nN_eq2, qin_nN, Option.some.injEq, Prod.mk.injEq, Sum.inl.injEq, e1]), if_pos rfl]
      exact ih g v l0 S (by omega) (by omega) hv1 (by omega) h1 h2 hT hk
theorem m_up_loop {S0 : qSt} (hv : vT T) (hs : s < T 0 1) (h0 : T 4 s = 0) (ha : upAll T s es Ds ps ks) (hT0 : isM S0 114 0 T) (hM9 : M ≤ 99) (hM : ∀ l, 1 ≤ l → l ≤ 99 → (uP (ps l) (ks l) (T 1 s) (T 2 s) ↔ l ≤ M)) (hn : 100000000 ≤ n) : ∀ l f l0 S, l ≤ 99 → l < f → M ≤ l → 1 ≤ l0 → l0 ≤ 99 → isM S 115 0 (tU T 3 s l0) → kp [111, 115, 120, 121, 122] S0 S → k1 [15] S0 S → ∃ S2, B8_upTo_41 n f (nI s) (nI l) S = some (if M = 0 then nN else nI M, S2) ∧ kp [111, 115, 120, 121, 122] S0 S2 ∧ k1 [15] S0 S2 := by
  have h20 := hv.2.2.1
  intro l
  induction l with
  | zero =>
    intro f l0 S _ hf hMl h1 h2 hT hk hk1
    obtain ⟨g, rfl, hg⟩ := fuel_s hf
    refine ⟨S, ?_, hk, hk1⟩
    rw [B8_upTo_41, if_pos (show M = 0 by omega)]
    simp (disch := omega) only [if_pos, if_neg, ite_true, ite_false, not_true_eq_false, Bool.false_eq_true, not_false_eq_true, eq_self, obs, ob1, ob2, obx, opx, li_0, li_1, li_2, li_3, li_4, li_5, li_6, li_7, li_8, li_9, li_10, li_14, li_16, li_20, li_21, li_24, li_25, li_32, li_44, li_48, li_57, li_60, li_64, li_81, li_84, li_99, li_100, li_101, li_108, li_111, li_115, li_116, li_120, li_140, li_255, li_500, li_999, li_1000, li_1092, li_1176, li_10000, li_100000, li_1000000, li_N, li_M, nI_add, pk_mul, pk_sub, pk_div, pk_rem, k_mod, nI_clamp, nI_leI, nI_ltI, nI_eq, qin_nI, nI_m1, nN_lt, nN_lt2, nN_le, nN_le2, nN_eq, nN_eq2, qin_nN, Option.some.injEq, Prod.mk.injEq, Sum.inl.injEq]
  | succ l ih =>
    intro f l0 S hl hf hMl h1 h2 hT hk hk1
    obtain ⟨g, rfl, hg⟩ := fuel_s hf
    obtain ⟨q0, q1, q2, q4, q3, q5⟩ := t3 (T := T) (s := s) (l := l + 1)
    obtain ⟨z0, -⟩ := t3 (T := T) (s := s) (l := l0)
    obtain ⟨hG, hD, hp, he, f1, f2, f3⟩ := ha (l + 1) (by omega) hl
    have hv1 : vT (tU T 3 s (l + 1)) := vK_str hv (by omega) hl
    have hst := isM_st (x := 3) (s := s) hT (Or.inl rfl) (by rw [z0]; exact h20) (by rw [z0]; exact hs) (l + 1)
    rw [if_pos rfl, tU_tU] at hst
    obtain ⟨S1, e1, k1', k2', r1, -⟩ := m_lw (n := n) (but := 9999) kr_115 (by omega) hst hv1 hG (by rw [q0]; exact hD) (by rw [q0, q0]; exact hp) hn
    rw [bI_N] at e1
    have kk1 : kp [111, 115, 120, 121, 122] S0 S1 := kp_tr (kp_up (v := nI (l + 1)) (k := 44 + s) hk (by simp)) k1' (fun _ h => h) (by simp)
    have kk2 : k1 [15] S0 S1 := k1_tr (k1_uo (v := nI (l + 1)) (i := 44 + s) hk1 (by omega)) k2' (fun _ h => h) (fun _ h => h)
    have hT1 : isM S1 115 0 (tU T 3 s (l + 1)) := isM_kp hst k1' (by decide)
    have hu := m_iw (n := n) (s := s) kr_115 hT1 hv1 r1 f1 f2 f3 (by rw [q0]; exact hs) (by omega)
    rw [q1, q2] at hu
    have t4 : S 114 (64 + s) = nI (T 4 s) := by
      rw [hk 114 (by decide)]
      have := (hT0.2.2.2.2 s hs).2.2
      rw [Nat.zero_add] at this
      exact this
    by_cases u : uP (ps (l + 1)) (ks (l + 1)) (T 1 s) (T 2 s)
    · have hm := (hM (l + 1) (by omega) hl).mp u
      refine ⟨S1, ?_, kk1, kk2⟩
      rw [B8_upTo_41, if_neg (show ¬ M = 0 by omega), show M = l + 1 by omega]
      simp (disch := omega) only [if_pos, if_neg, ite_true, ite_false, not_true_eq_false, Bool.false_eq_true, not_false_eq_true, eq_self, obs, ob1, ob2, obx, opx, li_0, li_1, li_2, li_3, li_4, li_5, li_6, li_7, li_8, li_9, li_10, li_14, li_16, li_20, li_21, li_24, li_25, li_32, li_44, li_48, li_57, li_60, li_64, li_81, li_84, li_99, li_100, li_101, li_108, li_111, li_115, li_116, li_120, li_140, li_255, li_500, li_999, li_1000, li_1092, li_1176, li_10000, li_100000, li_1000000, li_N, li_M, nI_add, pk_mul, pk_sub, pk_div, pk_rem, k_mod, nI_clamp, nI_leI, nI_ltI, nI_eq, qin_nI, nI_m1, nN_lt, nN_lt2, nN_le, nN_le2, nN_eq, nN_eq2, qin_nN, Option.some.injEq, Prod.mk.injEq, Sum.inl.injEq, t4, h0, e1, hu.1 u]
    · have hm : ¬ l + 1 ≤ M := fun z => u ((hM (l + 1) (by omega) hl).mpr z)
      obtain ⟨S2, e2, k3⟩ := ih g (l + 1) S1 (by omega) (by omega) (by omega) (by omega) hl hT1 kk1 kk2
      refine ⟨S2, ?_, k3⟩
      rw [B8_upTo_41]
      simp (disch := omega) only [if_pos, if_neg, ite_true, ite_false, not_true_eq_false, Bool.false_eq_true, not_false_eq_true, eq_self, obs, ob1, ob2, obx, opx, li_0, li_1, li_2, li_3, li_4, li_5, li_6, li_7, li_8, li_9, li_10, li_14, li_16, li_20, li_21, li_24, li_25, li_32, li_44, li_48, li_57, li_60, li_64, li_81, li_84, li_99, li_100, li_101, li_108, li_111, li_115, li_116, li_120, li_140, li_255, li_500, li_999, li_1000, li_1092, li_1176, li_10000, li_100000, li_1000000, li_N, li_M, nI_add, pk_mul, pk_sub, pk_div, pk_rem, k_mod, nI_clamp, nI_leI, nI_ltI, nI_eq, qin_nI, nI_m1, nN_lt, nN_lt2, nN_le, nN_le2, nN_eq, nN_eq2, qin_nN, Option.some.injEq, Prod.mk.injEq, Sum.inl.injEq, t4, h0, e1, hu.2 u]
      exact e2
end QUT
theorem k_upTo {S : qSt} {n : Nat} (h : Rel S) (hn : 100000000 ≤ n) (x : Int32) : okc (CC (FL_upTo n x S) (F8_upTo n x)) := by
  obtain ⟨L, c, T, hc, H, F, K, hR, rm, ok⟩ := h
  have hv := ok.2.2.1
  have h9 := hv.2.1
  have h20 := hv.2.2.1
  obtain ⟨x1, x2, x3, x4, x5⟩ := kx_114
  unfold FL_upTo
  rcases ix x (T 0 1) (by omega) with ⟨s, hs, rfl⟩ | ⟨hno, -⟩
  · obtain ⟨v1, v2, v3, v4, v5⟩ := hv.2.2.2.2.2.2.1 s hs
    have t4 : S 12 s = nI (T 4 s) := (hR.2.1.2.2.2.2 s hs).2.2.2
    have cpM : ∀ S, RM S L c T hc H F K → ∃ S2, F8_copyTown n 114 (nI 0) 115 (nI 0) (qup S 111 0 (nI 0)) = some S2 ∧ isM S2 115 0 T ∧ kp [115] (qup S 111 0 (nI 0)) S2 ∧ RM S2 L c T hc H F K ∧ kM S S2 ∧ S2 111 0 = nI 0 := fun S rm => by
      obtain ⟨r1, r2, r3, r4⟩ := rq rm 0
      obtain ⟨S2, e2, t2, k2, -⟩ := m_ct (n := n) (a := 114) (c := 115) (x := 0) (y := 0) (by omega) (by omega) (by omega) (by omega) (by omega) r4 h20 (by omega)
      exact ⟨S2, e2, t2, k2, RM_kp r1 (Q := []) k2 (k1_kp k2 (by decide)) (by simp) (by decide) (by decide), kM_tr r2 (kM_kp k2 (by simp)), by rw [k2 111 (by decide)]; exact r3⟩
    by_cases h0 : T 4 s = 0
    · obtain ⟨es, Ds, ps, ks, ha⟩ := up_ex (s := s) hv
      obtain ⟨M, hM9, hM⟩ := up_max (U := fun l => uP (ps l) (ks l) (T 1 s) (T 2 s)) (fun l l2 g1 g2 g3 u => by
        obtain ⟨hG, hD, hp, he, f1, f2, f3⟩ := ha l (by omega) g3
        obtain ⟨hG2, hD2, hp2, he2, -⟩ := ha l2 g1 (by omega)
        exact up_way (shr_of hs (by omega) h0 hG hG2 (by omega) g2) he he2 (by have := hv.2.2.2.1; omega) hD hD2 hp hp2 u) 99 (by omega)
      obtain ⟨S1, e1, t1, k1⟩ := c_cp (o := 13) (n := n) hR.2.1 hv (by omega) (by omega) (by omega)
      have t1' : isT S1 13 (tU T 3 s (T 3 s)) := by rw [tU_self]; exact t1
      obtain ⟨S2, e2, k2⟩ := c_up_loop (n := n) (S0 := S) hv hs ha hM9 hM (by omega) 7 n 0 (T 3 s) S1 (by omega) (by omega) (by omega) (by rw [show 2 ^ 7 = 128 from rfl]; omega) v3 v4 t1' (kp_mono k1 (by simp))
      rw [show 2 ^ 7 / 2 = 64 from rfl] at e2
      refine okc_q (r := if M = 0 then nN else nI M) rm ⟨S2, ?_, RC_kp hR k2 (by simp), kC_kp k2 (by simp)⟩ (fun S rm => ?_) ok
      · unfold F7_upTo
        simp (disch := omega) only [if_pos, if_neg, ite_true, ite_false, not_true_eq_false, Bool.false_eq_true, not_false_eq_true, eq_self, obs, ob1, ob2, obx, opx, li_0, li_1, li_2, li_3, li_4, li_5, li_6, li_7, li_8, li_9, li_10, li_14, li_16, li_20, li_21, li_24, li_25, li_32, li_44, li_48, li_57, li_60, li_64, li_81, li_84, li_99, li_100, li_101, li_108, li_111, li_115, li_116, li_120, li_140, li_255, li_500, li_999, li_1000, li_1092, li_1176, li_10000, li_100000, li_1000000, li_N, li_M, nI_add, pk_mul, pk_sub, pk_div, pk_rem, k_mod, nI_clamp, nI_leI, nI_ltI, nI_eq, qin_nI, nI_m1, nN_lt, nN_lt2, nN_le, nN_le2, nN_eq, nN_eq2, qin_nN, Option.some.injEq, Prod.mk.injEq, Sum.inl.injEq, c_rs_y hR.2.1 hv hs, t4, h0, e1]
        exact e2
      · obtain ⟨S3, e3, t3', k3, g1, g2, g3⟩ := cpM S rm
        have t3'' : isM S3 115 0 (tU T 3 s (T 3 s)) := by rw [tU_self]; exact t3'
        obtain ⟨S4, e4, k4, k4'⟩ := m_up_loop (n := n) (S0 := S3) hv hs h0 ha g1.2.1 hM9 hM hn 99 n (T 3 s) S3 (by omega) (by omega) hM9 v3 v4 t3'' kp_rfl k1_rfl
        refine ⟨S4, ?_, RM_kp g1 k4 k4' (by simp) (by decide) (by decide), kM_tr g2 (kM_kp k4 (by simp)), (k4' 0 (by decide)).trans g3⟩
        unfold F8_upTo B8_upTo_17
        rw [m_isS_y kr_114 rm.2.1.2.1 (by omega) hs]
        simp (disch := omega) only [if_pos, if_neg, ite_true, ite_false, not_true_eq_false, Bool.false_eq_true, not_false_eq_true, eq_self, obs, ob1, ob2, obx, opx, li_0, li_1, li_2, li_3, li_4, li_5, li_6, li_7, li_8, li_9, li_10, li_14, li_16, li_20, li_21, li_24, li_25, li_32, li_44, li_48, li_57, li_60, li_64, li_81, li_84, li_99, li_100, li_101, li_108, li_111, li_115, li_116, li_120, li_140, li_255, li_500, li_999, li_1000, li_1092, li_1176, li_10000, li_100000, li_1000000, li_N, li_M, nI_add, pk_mul, pk_sub, pk_div, pk_rem, k_mod, nI_clamp, nI_leI, nI_ltI, nI_eq, qin_nI, nI_m1, nN_lt, nN_lt2, nN_le, nN_le2, nN_eq, nN_eq2, qin_nN, Option.some.injEq, Prod.mk.injEq, Sum.inl.injEq, m_ref_0, e3]
        exact e4
    · refine okc_q (r := nN) rm ⟨S, ?_, hR, kC_rfl⟩ (fun S rm => ?_) ok
      · unfold F7_upTo
        simp (disch := omega) only [if_pos, if_neg, ite_true, ite_false, not_true_eq_false, Bool.false_eq_true, not_false_eq_true, eq_self, obs, ob1, ob2, obx, opx, li_0, li_1, li_2, li_3, li_4, li_5, li_6, li_7, li_8, li_9, li_10, li_14, li_16, li_20, li_21, li_24, li_25, li_32, li_44, li_48, li_57, li_60, li_64, li_81, li_84, li_99, li_100, li_101, li_108, li_111, li_115, li_116, li_120, li_140, li_255, li_500, li_999, li_1000, li_1092, li_1176, li_10000, li_100000, li_1000000, li_N, li_M, nI_add, pk_mul, pk_sub, pk_div, pk_rem, k_mod, nI_clamp, nI_leI, nI_ltI, nI_eq, qin_nI, nI_m1, nN_lt, nN_lt2, nN_le, nN_le2, nN_eq, nN_eq2, qin_nN, Option.some.injEq, Prod.mk.injEq, Sum.inl.injEq, c_rs_y hR.2.1 hv hs, t4]
      · obtain ⟨S3, e3, t3', k3, g1, g2, g3⟩ := cpM S rm
        refine ⟨S3, ?_, g1, g2, g3⟩
        have q4 : S3 114 (64 + s) = nI (T 4 s) := by
          have := (g1.2.1.2.2.2.2 s hs).2.2
          rw [Nat.zero_add] at this
          exact this
        obtain ⟨g, hg⟩ : ∃ g, n = g + 1 := ⟨n - 1, by omega⟩
        have last : B8_upTo_41 n n (nI s) (nI 99) S3 = some (nN, S3) := by
          rw [show B8_upTo_41 n n = B8_upTo_41 n (g + 1) by rw [← hg], B8_upTo_41]
          simp (disch := omega) only [if_pos, if_neg, ite_true, ite_false, not_true_eq_false, Bool.false_eq_true, not_false_eq_true, eq_self, obs, ob1, ob2, obx, opx, li_0, li_1, li_2, li_3, li_4, li_5, li_6, li_7, li_8, li_9, li_10, li_14, li_16, li_20, li_21, li_24, li_25, li_32, li_44, li_48, li_57, li_60, li_64, li_81, li_84, li_99, li_100, li_101, li_108, li_111, li_115, li_116, li_120, li_140, li_255, li_500, li_999, li_1000, li_1092, li_1176, li_10000, li_100000, li_1000000, li_N, li_M, nI_add, pk_mul, pk_sub, pk_div, pk_rem, k_mod, nI_clamp, nI_leI, nI_ltI, nI_eq, qin_nI, nI_m1, nN_lt, nN_lt2, nN_le, nN_le2, nN_eq, nN_eq2, qin_nN, Option.some.injEq, Prod.mk.injEq, Sum.inl.injEq, q4]
        unfold F8_upTo B8_upTo_17
        rw [m_isS_y kr_114 rm.2.1.2.1 (by omega) hs]
        simp (disch := omega) only [if_pos, if_neg, ite_true, ite_false, not_true_eq_false, Bool.false_eq_true, not_false_eq_true, eq_self, obs, ob1, ob2, obx, opx, li_0, li_1, li_2, li_3, li_4, li_5, li_6, li_7, li_8, li_9, li_10, li_14, li_16, li_20, li_21, li_24, li_25, li_32, li_44, li_48, li_57, li_60, li_64, li_81, li_84, li_99, li_100, li_101, li_108, li_111, li_115, li_116, li_120, li_140, li_255, li_500, li_999, li_1000, li_1092, li_1176, li_10000, li_100000, li_1000000, li_N, li_M, nI_add, pk_mul, pk_sub, pk_div, pk_rem, k_mod, nI_clamp, nI_leI, nI_ltI, nI_eq, qin_nI, nI_m1, nN_lt, nN_lt2, nN_le, nN_le2, nN_eq, nN_eq2, qin_nN, Option.some.injEq, Prod.mk.injEq, Sum.inl.injEq, m_ref_0, e3, last]
  · refine okc_e (k := 2) (w := 1) hR rm ok ?_ (fun S => by simp (disch := omega) only [if_pos, if_neg, ite_true, ite_false, not_true_eq_false, Bool.false_eq_true, not_false_eq_true, eq_self, obs, ob1, ob2, obx, opx, li_0, li_1, li_2, li_3, li_4, li_5, li_6, li_7, li_8, li_9, li_10, li_14, li_16, li_20, li_21, li_24, li_25, li_32, li_44, li_48, li_57, li_60, li_64, li_81, li_84, li_99, li_100, li_101, li_108, li_111, li_115, li_116, li_120, li_140, li_255, li_500, li_999, li_1000, li_1092, li_1176, li_10000, li_100000, li_1000000, li_N, li_M, nI_add, pk_mul, pk_sub, pk_div, pk_rem, k_mod, nI_clamp, nI_leI, nI_ltI, nI_eq, qin_nI, nI_m1, nN_lt, nN_lt2, nN_le, nN_le2, nN_eq, nN_eq2, qin_nN, Option.some.injEq, Prod.mk.injEq, Sum.inl.injEq]) (by omega) (by omega) (fun S rm => ?_)
    · unfold F7_upTo
      simp (disch := omega) only [if_pos, if_neg, ite_true, ite_false, not_true_eq_false, Bool.false_eq_true, not_false_eq_true, eq_self, obs, ob1, ob2, obx, opx, li_0, li_1, li_2, li_3, li_4, li_5, li_6, li_7, li_8, li_9, li_10, li_14, li_16, li_20, li_21, li_24, li_25, li_32, li_44, li_48, li_57, li_60, li_64, li_81, li_84, li_99, li_100, li_101, li_108, li_111, li_115, li_116, li_120, li_140, li_255, li_500, li_999, li_1000, li_1092, li_1176, li_10000, li_100000, li_1000000, li_N, li_M, nI_add, pk_mul, pk_sub, pk_div, pk_rem, k_mod, nI_clamp, nI_leI, nI_ltI, nI_eq, qin_nI, nI_m1, nN_lt, nN_lt2, nN_le, nN_le2, nN_eq, nN_eq2, qin_nN, Option.some.injEq, Prod.mk.injEq, Sum.inl.injEq, c_rs_n hR.2.1 hv hno]
    · unfold F8_upTo
      rw [m_isS_n kr_114 rm.2.1.2.1 (by omega) hno]
      simp (disch := omega) only [if_pos, if_neg, ite_true, ite_false, not_true_eq_false, Bool.false_eq_true, not_false_eq_true, eq_self, obs, ob1, ob2, obx, opx, li_0, li_1, li_2, li_3, li_4, li_5, li_6, li_7, li_8, li_9, li_10, li_14, li_16, li_20, li_21, li_24, li_25, li_32, li_44, li_48, li_57, li_60, li_64, li_81, li_84, li_99, li_100, li_101, li_108, li_111, li_115, li_116, li_120, li_140, li_255, li_500, li_999, li_1000, li_1092, li_1176, li_10000, li_100000, li_1000000, li_N, li_M, nI_add, pk_mul, pk_sub, pk_div, pk_rem, k_mod, nI_clamp, nI_leI, nI_ltI, nI_eq, qin_nI, nI_m1, nN_lt, nN_lt2, nN_le, nN_le2, nN_eq, nN_eq2, qin_nN, Option.some.injEq, Prod.mk.injEq, Sum.inl.injEq]
      exact m_throw 1 (by omega) (by omega)
