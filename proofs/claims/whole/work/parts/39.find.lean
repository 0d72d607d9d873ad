/-! THE WAY LAID -/
def isR (S : qSt) (o : Nat) (p : Nat → Nat) (k : Nat) : Prop := S o 3 = nI k ∧ (∀ i, i < k → S (o + 2) i = nI (p i)) ∧ (∀ i, i < k → S (o + 3) (p i) = nI i) ∧ ∀ c, c < 9 → (∀ i, i < k → p i ≠ c) → S (o + 3) c = nN
abbrev pR (o : Nat) : List Nat := [o, o + 1, o + 2, o + 3]
theorem c_f_init {S0 : qSt} {o a n : Nat} : ∀ j c f S, c + j = 9 → j < f → kp (pR o) S0 S → (∀ x, x < c → S (o + 3) x = nN) → ∃ S2, B2_find_2 n o a f (nI c) S = B2_find_23 n o a S2 ∧ kp (pR o) S0 S2 ∧ ∀ x, x < 9 → S2 (o + 3) x = nN := by
  intro j
  induction j with
  | zero =>
    intro c f S hs hf hkp hW
    obtain ⟨g, rfl, hg⟩ := fuel_s hf
    refine ⟨S, ?_, hkp, fun x hx => hW x (by omega)⟩
    rw [B2_find_2]
    simp (disch := omega) only [if_pos, if_neg, ite_true, ite_false, not_true_eq_false, Bool.false_eq_true, not_false_eq_true, eq_self, obs, ob1, ob2, obx, opx, li_0, li_1, li_2, li_3, li_4, li_5, li_6, li_7, li_8, li_9, li_10, li_14, li_16, li_20, li_21, li_24, li_25, li_32, li_44, li_48, li_57, li_60, li_64, li_81, li_84, li_99, li_100, li_101, li_108, li_111, li_115, li_116, li_120, li_140, li_255, li_500, li_999, li_1000, li_1092, li_1176, li_10000, li_100000, li_1000000, li_N, li_M, nI_add, pk_mul, pk_sub, pk_div, pk_rem, k_mod, nI_clamp, nI_leI, nI_ltI, nI_eq, qin_nI, nI_m1, nN_lt, nN_lt2, nN_le, nN_le2, nN_eq, nN_eq2, qin_nN, Option.some.injEq, Prod.mk.injEq, Sum.inl.injEq]
  | succ j ih =>
    intro c f S hs hf hkp hW
    obtain ⟨g, rfl, hg⟩ := fuel_s hf
    obtain ⟨S2, e1, e2⟩ := ih (c + 1) g (qup S (o + 3) c nN) (by omega) (by omega) (kp_up hkp (by simp)) (fun x hx => by
      by_cases q : x = c
      · subst q
        rw [qup_s]
      · rw [qup_k _ _ _ q]
        exact hW x (by omega))
    refine ⟨S2, ?_, e2⟩
    rw [B2_find_2, ← e1]
    simp (disch := omega) only [if_pos, if_neg, ite_true, ite_false, not_true_eq_false, Bool.false_eq_true, not_false_eq_true, eq_self, obs, ob1, ob2, obx, opx, li_0, li_1, li_2, li_3, li_4, li_5, li_6, li_7, li_8, li_9, li_10, li_14, li_16, li_20, li_21, li_24, li_25, li_32, li_44, li_48, li_57, li_60, li_64, li_81, li_84, li_99, li_100, li_101, li_108, li_111, li_115, li_116, li_120, li_140, li_255, li_500, li_999, li_1000, li_1092, li_1176, li_10000, li_100000, li_1000000, li_N, li_M, nI_add, pk_mul, pk_sub, pk_div, pk_rem, k_mod, nI_clamp, nI_leI, nI_ltI, nI_eq, qin_nI, nI_m1, nN_lt, nN_lt2, nN_le, nN_le2, nN_eq, nN_eq2, qin_nN, Option.some.injEq, Prod.mk.injEq, Sum.inl.injEq]
/-- town and route lie apart -/
def apart (o a : Nat) : Prop := a + 4 < o ∨ o + 3 < a
theorem isT_ap {S S2 : qSt} {o a : Nat} {T : Tn} (hT : isT S a T) (h : apart o a) (k : kp (pR o) S S2) : isT S2 a T := by
  unfold apart at h
  refine isT_kp hT k ?_ ?_ ?_ ?_ ?_ <;> (simp only [List.mem_cons, List.not_mem_nil, or_false]; omega)
theorem c_f_loop {S0 : qSt} {o a k n m but st go : Nat} {e : Gr} {T : Tn} {D W : Nat → Nat} {p : Nat → Nat} (hT : isT S0 a T) (hap : apart o a) (hv : vK k T) (hk : k ≤ 21) (hG : isG e T but) (hbut : T 0 1 ≤ but) (hgo : go < 9) (hst : st < 9) (hD : gD 100 e go D) (hW16 : gD 16 e go W) (hU : D st ≠ gU) (hp : isWay e D st go p m) (hn : 100 ≤ n) : ∀ j x f S, x + j = m → j + 1 < f → kp (pR o) S0 S → isW S (o + 1) W → isR S o p x → ∃ S2, B2_find_62 n o a f (nI (p x)) S = some S2 ∧ kp (pR o) S0 S2 ∧ isR S2 o p (m + 1) := by
  have he := isG_ok hv hG
  have hm := way_m hD hst hU he hp
  have hp9 := way_9 he hst hp
  have hpj : ∀ i j, i ≤ m → j ≤ m → p i = p j → i = j := fun i j hi hj h => way_inj hD hst hU he hp hi hj h
  have step : ∀ x S, x ≤ m → kp (pR o) S0 S → isW S (o + 1) W → isR S o p x → ∃ S1, kp (pR o) S0 S1 ∧ isW S1 (o + 1) W ∧ isR S1 o p (x + 1) ∧ ∀ f, B2_find_62 n o a (f + 1) (nI (p x)) S = ob1 (F2_nextBehind n o a (nI (p x)) S1) fun r => B2_find_62 n o a f r S1 := by
    intro x S hx hkp hW hR
    obtain ⟨r0, r1, r2, r3⟩ := hR
    have hx9 := hp9 x hx
    refine ⟨qup (qup (qup S (o + 2) x (nI (p x))) (o + 3) (p x) (nI x)) o 3 (nI (x + 1)), kp_up (kp_up (kp_up hkp (by simp)) (by simp)) (by simp), fun c hc => ?_, ⟨?_, fun i hi => ?_, fun i hi => ?_, fun c hc hn => ?_⟩, fun f => ?_⟩
    · rw [qup_o _ _ _ (by omega), qup_o _ _ _ (by omega), qup_o _ _ _ (by omega)]
      exact hW c hc
    · rw [qup_s]
    · rw [qup_o _ _ _ (by omega), qup_o _ _ _ (by omega)]
      by_cases q : i = x
      · subst q
        rw [qup_s]
      · rw [qup_k _ _ _ q]
        exact r1 i (by omega)
    · rw [qup_o _ _ _ (by omega)]
      by_cases q : i = x
      · subst q
        rw [qup_s]
      · have : p i ≠ p x := fun z => q (hpj i x (by omega) hx z)
        rw [qup_k _ _ _ this, qup_o _ _ _ (by omega)]
        exact r2 i (by omega)
    · rw [qup_o _ _ _ (by omega), qup_k _ _ _ (fun z => hn x (by omega) z.symm), qup_o _ _ _ (by omega)]
      exact r3 c hc (fun i hi => hn i (by omega))
    · rw [B2_find_62]
      have q1 : qup S (o + 2) x (nI (p x)) o 3 = nI x := by
        rw [qup_o _ _ _ (by omega)]
        exact r0
      have q2 : qup (qup S (o + 2) x (nI (p x))) (o + 3) (p x) (nI x) o 3 = nI x := by
        rw [qup_o _ _ _ (by omega)]
        exact q1
      simp (disch := omega) only [if_pos, if_neg, ite_true, ite_false, not_true_eq_false, Bool.false_eq_true, not_false_eq_true, eq_self, obs, ob1, ob2, obx, opx, li_0, li_1, li_2, li_3, li_4, li_5, li_6, li_7, li_8, li_9, li_10, li_14, li_16, li_20, li_21, li_24, li_25, li_32, li_44, li_48, li_57, li_60, li_64, li_81, li_84, li_99, li_100, li_101, li_108, li_111, li_115, li_116, li_120, li_140, li_255, li_500, li_999, li_1000, li_1092, li_1176, li_10000, li_100000, li_1000000, li_N, li_M, nI_add, pk_mul, pk_sub, pk_div, pk_rem, k_mod, nI_clamp, nI_leI, nI_ltI, nI_eq, qin_nI, nI_m1, nN_lt, nN_lt2, nN_le, nN_le2, nN_eq, nN_eq2, qin_nN, Option.some.injEq, Prod.mk.injEq, Sum.inl.injEq, r0, q1, q2]
  intro j
  induction j with
  | zero =>
    intro x f S hs hf hkp hW hR
    obtain ⟨g, rfl, hg⟩ := fuel_s hf
    obtain ⟨h, rfl, hh⟩ := fuel_s hg
    obtain ⟨S1, k1, w1, r1, e1⟩ := step x S (by omega) hkp hW hR
    refine ⟨S1, ?_, k1, by rw [show m = x by omega]; exact r1⟩
    have hx : p x = go := by rw [show x = m by omega]; exact hp.2.1
    have hgU : D go ≠ gU := by rw [hD.1.1]; decide +kernel
    have hno : F2_nextBehind n o a (nI (p x)) S1 = some nN := by
      rw [hx]
      refine (c_nb (isT_ap hT hap k1) hv hk hG hbut hgo hD hW16 w1 hgo hgU hn).2 (fun y hy => ?_)
      have := hy.2
      rw [hD.1.1] at this
      omega
    rw [e1, hno]
    simp (disch := omega) only [if_pos, if_neg, ite_true, ite_false, not_true_eq_false, Bool.false_eq_true, not_false_eq_true, eq_self, obs, ob1, ob2, obx, opx, li_0, li_1, li_2, li_3, li_4, li_5, li_6, li_7, li_8, li_9, li_10, li_14, li_16, li_20, li_21, li_24, li_25, li_32, li_44, li_48, li_57, li_60, li_64, li_81, li_84, li_99, li_100, li_101, li_108, li_111, li_115, li_116, li_120, li_140, li_255, li_500, li_999, li_1000, li_1092, li_1176, li_10000, li_100000, li_1000000, li_N, li_M, nI_add, pk_mul, pk_sub, pk_div, pk_rem, k_mod, nI_clamp, nI_leI, nI_ltI, nI_eq, qin_nI, nI_m1, nN_lt, nN_lt2, nN_le, nN_le2, nN_eq, nN_eq2, qin_nN, Option.some.injEq, Prod.mk.injEq, Sum.inl.injEq]
    rw [B2_find_62]
    simp (disch := omega) only [if_pos, if_neg, ite_true, ite_false, not_true_eq_false, Bool.false_eq_true, not_false_eq_true, eq_self, obs, ob1, ob2, obx, opx, li_0, li_1, li_2, li_3, li_4, li_5, li_6, li_7, li_8, li_9, li_10, li_14, li_16, li_20, li_21, li_24, li_25, li_32, li_44, li_48, li_57, li_60, li_64, li_81, li_84, li_99, li_100, li_101, li_108, li_111, li_115, li_116, li_120, li_140, li_255, li_500, li_999, li_1000, li_1092, li_1176, li_10000, li_100000, li_1000000, li_N, li_M, nI_add, pk_mul, pk_sub, pk_div, pk_rem, k_mod, nI_clamp, nI_leI, nI_ltI, nI_eq, qin_nI, nI_m1, nN_lt, nN_lt2, nN_le, nN_le2, nN_eq, nN_eq2, qin_nN, Option.some.injEq, Prod.mk.injEq, Sum.inl.injEq]
  | succ j ih =>
    intro x f S hs hf hkp hW hR
    obtain ⟨g, rfl, hg⟩ := fuel_s hf
    obtain ⟨S1, k1, w1, r1, e1⟩ := step x S (by omega) hkp hW hR
    obtain ⟨S2, f1, f2⟩ := ih (x + 1) g S1 (by omega) (by omega) k1 w1 r1
    refine ⟨S2, ?_, f2⟩
    have hnx : F2_nextBehind n o a (nI (p x)) S1 = some (nI (p (x + 1))) := (c_nb (isT_ap hT hap k1) hv hk hG hbut hgo hD hW16 w1 (hp9 x (by omega)) (way_U hD hst hU he hp x (by omega)) hn).1 _ (hp.2.2 x (by omega)).2
    rw [e1, hnx]
    simp (disch := omega) only [if_pos, if_neg, ite_true, ite_false, not_true_eq_false, Bool.false_eq_true, not_false_eq_true, eq_self, obs, ob1, ob2, obx, opx, li_0, li_1, li_2, li_3, li_4, li_5, li_6, li_7, li_8, li_9, li_10, li_14, li_16, li_20, li_21, li_24, li_25, li_32, li_44, li_48, li_57, li_60, li_64, li_81, li_84, li_99, li_100, li_101, li_108, li_111, li_115, li_116, li_120, li_140, li_255, li_500, li_999, li_1000, li_1092, li_1176, li_10000, li_100000, li_1000000, li_N, li_M, nI_add, pk_mul, pk_sub, pk_div, pk_rem, k_mod, nI_clamp, nI_leI, nI_ltI, nI_eq, qin_nI, nI_m1, nN_lt, nN_lt2, nN_le, nN_le2, nN_eq, nN_eq2, qin_nN, Option.some.injEq, Prod.mk.injEq, Sum.inl.injEq]
    exact f1
theorem c_find {S : qSt} {o a k n kk but : Nat} {e : Gr} {T : Tn} {D : Nat → Nat} {p : Nat → Nat} (hT : isT S a T) (hap : apart o a) (hv : vK k T) (hk : k ≤ 21) (hG : isG e T but) (hbut : T 0 1 ≤ but) (hD : gD 100 e (T 0 3) D) (hp : isBest e D (T 0 2) (T 0 3) p kk) (hn : 100 ≤ n) : ∃ S2, F2_find n o a S = some S2 ∧ kp (pR o) S S2 ∧ isR S2 o p kk := by
  have he := isG_ok hv hG
  have h9 := hv.2.1
  have h2 := hv.2.2.2.1
  have h3 := hv.2.2.2.2.1
  obtain ⟨S1, e1, k1, z1⟩ := c_f_init (S0 := S) (o := o) (a := a) (n := n) 9 0 n S (by omega) (by omega) kp_rfl (fun x hx => by omega)
  have k2 : kp (pR o) S (qup S1 o 3 (nI 0)) := kp_up k1 (by simp)
  have hT2 := isT_ap hT hap k2
  have hW16 := gConv_D he (by omega) hD
  obtain ⟨S3, e3, k3, w3⟩ := c_weigh (o := o) (n := n) hT2 (by unfold apart at hap; simp only [List.mem_cons, List.not_mem_nil, or_false]; omega) hv hk hG hbut hW16 (by omega) hn
  have k3' : kp (pR o) S S3 := kp_tr k2 k3 (fun _ h => h) (by simp)
  have hT3 := isT_ap hT hap k3'
  have hs3 : S3 o 3 = nI 0 := by
    rw [k3 o (by simp), qup_s]
  have hz3 : ∀ x, x < 9 → S3 (o + 3) x = nN := fun x hx => by
    rw [k3 (o + 3) (by simp), qup_o _ _ _ (by omega)]
    exact z1 x hx
  have hU : gU = 1000000 := rfl
  have hDU := hD.1.2.1 (T 0 2) (by omega)
  have hWU := hW16.1.2.1 (T 0 2) (by omega)
  have main : F2_find n o a S = (if gConv D (T 0 2) = gU then B2_find_61 n o a nN S3 else B2_find_61 n o a (nI (T 0 2)) S3) := by
    unfold F2_find
    rw [show (0 : Int32) = nI 0 from rfl, e1]
    unfold B2_find_23
    simp (disch := omega) only [if_pos, if_neg, ite_true, ite_false, not_true_eq_false, Bool.false_eq_true, not_false_eq_true, eq_self, obs, ob1, ob2, obx, opx, li_0, li_1, li_2, li_3, li_4, li_5, li_6, li_7, li_8, li_9, li_10, li_14, li_16, li_20, li_21, li_24, li_25, li_32, li_44, li_48, li_57, li_60, li_64, li_81, li_84, li_99, li_100, li_101, li_108, li_111, li_115, li_116, li_120, li_140, li_255, li_500, li_999, li_1000, li_1092, li_1176, li_10000, li_100000, li_1000000, li_N, li_M, nI_add, pk_mul, pk_sub, pk_div, pk_rem, k_mod, nI_clamp, nI_leI, nI_ltI, nI_eq, qin_nI, nI_m1, nN_lt, nN_lt2, nN_le, nN_le2, nN_eq, nN_eq2, qin_nN, Option.some.injEq, Prod.mk.injEq, Sum.inl.injEq, hT2.2.2.2.1, e3, hT3.2.2.1, w3 (T 0 2) (by omega), hU]
    by_cases q : gConv D (T 0 2) = 1000000
    · simp [q]
    · simp [q]
  rw [main]
  rcases hp with ⟨h1, rfl⟩ | ⟨h1, m, rfl, hw⟩
  · rw [if_pos ((gBoth_U he (by omega) hD hW16 (by omega)).mpr h1)]
    refine ⟨S3, ?_, k3', hs3, fun i hi => by omega, fun i hi => by omega, fun c hc _ => hz3 c hc⟩
    unfold B2_find_61
    obtain ⟨g, rfl⟩ : ∃ g, n = g + 1 := ⟨n - 1, by omega⟩
    rw [B2_find_62]
    simp (disch := omega) only [if_pos, if_neg, ite_true, ite_false, not_true_eq_false, Bool.false_eq_true, not_false_eq_true, eq_self, obs, ob1, ob2, obx, opx, li_0, li_1, li_2, li_3, li_4, li_5, li_6, li_7, li_8, li_9, li_10, li_14, li_16, li_20, li_21, li_24, li_25, li_32, li_44, li_48, li_57, li_60, li_64, li_81, li_84, li_99, li_100, li_101, li_108, li_111, li_115, li_116, li_120, li_140, li_255, li_500, li_999, li_1000, li_1092, li_1176, li_10000, li_100000, li_1000000, li_N, li_M, nI_add, pk_mul, pk_sub, pk_div, pk_rem, k_mod, nI_clamp, nI_leI, nI_ltI, nI_eq, qin_nI, nI_m1, nN_lt, nN_lt2, nN_le, nN_le2, nN_eq, nN_eq2, qin_nN, Option.some.injEq, Prod.mk.injEq, Sum.inl.injEq]
  · rw [if_neg (fun z => h1 ((gBoth_U he (by omega) hD hW16 (by omega)).mp z))]
    have hm := way_m hD (by omega) h1 he hw
    obtain ⟨S4, e4, k4, r4⟩ := c_f_loop (S0 := S) hT hap hv hk hG hbut (by omega) (by omega) hD hW16 h1 hw hn m 0 n S3 (by omega) (by omega) k3' w3 ⟨hs3, fun i hi => by omega, fun i hi => by omega, fun c hc _ => hz3 c hc⟩
    refine ⟨S4, ?_, k4, r4⟩
    unfold B2_find_61
    rw [← hw.1]
    exact e4
/-- the place of a crossing on the way -/
def pl (p : Nat → Nat) (k c : Nat) : Int32 := ff (fun i => decide (p i = c)) k 0
theorem pl_c (p : Nat → Nat) (k c : Nat) : (pl p k c = nN ∧ ∀ i, i < k → p i ≠ c) ∨ ∃ i, i < k ∧ p i = c ∧ pl p k c = nI i := by
  rcases ff_cases (fun i => decide (p i = c)) k 0 with ⟨h1, h2⟩ | ⟨i, h1, h2, h3, h4, h5⟩
  · refine Or.inl ⟨h1, fun i hi => ?_⟩
    simpa using h2 i (by omega) (by omega)
  · exact Or.inr ⟨i, by omega, by simpa using h3, h4⟩
theorem c_pl {S : qSt} {o k c : Nat} {p : Nat → Nat} (hR : isR S o p k) (hc : c < 9) : F2_placeOf o (nI c) S = some (pl p k c) := by
  unfold F2_placeOf
  simp (disch := omega) only [if_pos, if_neg, ite_true, ite_false, not_true_eq_false, Bool.false_eq_true, not_false_eq_true, eq_self, obs, ob1, ob2, obx, opx, li_0, li_1, li_2, li_3, li_4, li_5, li_6, li_7, li_8, li_9, li_10, li_14, li_16, li_20, li_21, li_24, li_25, li_32, li_44, li_48, li_57, li_60, li_64, li_81, li_84, li_99, li_100, li_101, li_108, li_111, li_115, li_116, li_120, li_140, li_255, li_500, li_999, li_1000, li_1092, li_1176, li_10000, li_100000, li_1000000, li_N, li_M, nI_add, pk_mul, pk_sub, pk_div, pk_rem, k_mod, nI_clamp, nI_leI, nI_ltI, nI_eq, qin_nI, nI_m1, nN_lt, nN_lt2, nN_le, nN_le2, nN_eq, nN_eq2, qin_nN, Option.some.injEq, Prod.mk.injEq, Sum.inl.injEq]
  rcases pl_c p k c with ⟨h1, h2⟩ | ⟨i, h1, h2, h3⟩
  · rw [h1]
    exact hR.2.2.2 c hc h2
  · rw [h3, ← h2]
    exact hR.2.2.1 i h1
theorem c_ca {S : qSt} {o k i : Nat} {p : Nat → Nat} (hR : isR S o p k) (hk : k ≤ 9) (hi : i < 2 ^ 31) : F2_crossingAt o (nI i) S = some (if i < k then nI (p i) else nN) := by
  unfold F2_crossingAt
  simp (disch := omega) only [if_pos, if_neg, ite_true, ite_false, not_true_eq_false, Bool.false_eq_true, not_false_eq_true, eq_self, obs, ob1, ob2, obx, opx, li_0, li_1, li_2, li_3, li_4, li_5, li_6, li_7, li_8, li_9, li_10, li_14, li_16, li_20, li_21, li_24, li_25, li_32, li_44, li_48, li_57, li_60, li_64, li_81, li_84, li_99, li_100, li_101, li_108, li_111, li_115, li_116, li_120, li_140, li_255, li_500, li_999, li_1000, li_1092, li_1176, li_10000, li_100000, li_1000000, li_N, li_M, nI_add, pk_mul, pk_sub, pk_div, pk_rem, k_mod, nI_clamp, nI_leI, nI_ltI, nI_eq, qin_nI, nI_m1, nN_lt, nN_lt2, nN_le, nN_le2, nN_eq, nN_eq2, qin_nN, Option.some.injEq, Prod.mk.injEq, Sum.inl.injEq, hR.1]
  by_cases q : i < k
  · simp (disch := omega) only [if_pos, if_neg, ite_true, ite_false, not_true_eq_false, Bool.false_eq_true, not_false_eq_true, eq_self, obs, ob1, ob2, obx, opx, li_0, li_1, li_2, li_3, li_4, li_5, li_6, li_7, li_8, li_9, li_10, li_14, li_16, li_20, li_21, li_24, li_25, li_32, li_44, li_48, li_57, li_60, li_64, li_81, li_84, li_99, li_100, li_101, li_108, li_111, li_115, li_116, li_120, li_140, li_255, li_500, li_999, li_1000, li_1092, li_1176, li_10000, li_100000, li_1000000, li_N, li_M, nI_add, pk_mul, pk_sub, pk_div, pk_rem, k_mod, nI_clamp, nI_leI, nI_ltI, nI_eq, qin_nI, nI_m1, nN_lt, nN_lt2, nN_le, nN_le2, nN_eq, nN_eq2, qin_nN, Option.some.injEq, Prod.mk.injEq, Sum.inl.injEq, hR.2.1 i q]
  · rw [if_pos (by omega), if_neg q]
theorem c_sts {S : qSt} {o k : Nat} {p : Nat → Nat} (hR : isR S o p k) (hk : k ≤ 9) : F2_streets o S = if k = 0 then nN else nI (k - 1) := by
  unfold F2_streets
  rw [hR.1]
  by_cases q : k = 0
  · subst q
    rfl
  · rw [if_neg q]
    simp (disch := omega) only [if_pos, if_neg, ite_true, ite_false, not_true_eq_false, Bool.false_eq_true, not_false_eq_true, eq_self, obs, ob1, ob2, obx, opx, li_0, li_1, li_2, li_3, li_4, li_5, li_6, li_7, li_8, li_9, li_10, li_14, li_16, li_20, li_21, li_24, li_25, li_32, li_44, li_48, li_57, li_60, li_64, li_81, li_84, li_99, li_100, li_101, li_108, li_111, li_115, li_116, li_120, li_140, li_255, li_500, li_999, li_1000, li_1092, li_1176, li_10000, li_100000, li_1000000, li_N, li_M, nI_add, pk_mul, pk_sub, pk_div, pk_rem, k_mod, nI_clamp, nI_leI, nI_ltI, nI_eq, qin_nI, nI_m1, nN_lt, nN_lt2, nN_le, nN_le2, nN_eq, nN_eq2, qin_nN, Option.some.injEq, Prod.mk.injEq, Sum.inl.injEq]
/-- a street of the way joins two that follow one another -/
def uP (p : Nat → Nat) (k a b : Nat) : Prop := ∃ i, i + 1 < k ∧ ((p i = a ∧ p (i + 1) = b) ∨ (p i = b ∧ p (i + 1) = a))
def uI (x y : Int32) : Int32 := if x = nN then nI 0 else if y = nN then nI 0 else if x - y = nI 1 then nI 1 else if y - x = nI 1 then nI 1 else nI 0
theorem sub_1 {i j : Nat} (hi : i < 100) (hj : j < 100) : (nI i - nI j = nI 1) ↔ i = j + 1 := by
  have h1 := pk_sub_toInt (a := i) (b := j) (by omega) (by omega)
  constructor
  · intro h
    rw [h, nI_toInt (by omega)] at h1
    omega
  · rintro rfl
    rw [pk_sub (by omega)]
    congr 1
    omega
theorem uI_y {p : Nat → Nat} {k a b : Nat} (hk : k ≤ 9) (hinj : ∀ i j, i < k → j < k → p i = p j → i = j) : (uP p k a b → uI (pl p k a) (pl p k b) = nI 1) ∧ (¬ uP p k a b → uI (pl p k a) (pl p k b) = nI 0) := by
  unfold uI
  rcases pl_c p k a with ⟨h1, h2⟩ | ⟨i, h1, h2, h3⟩
  · rw [h1, if_pos rfl]
    refine ⟨fun ⟨x, hx, hh⟩ => ?_, fun _ => rfl⟩
    rcases hh with ⟨g1, g2⟩ | ⟨g1, g2⟩
    · exact absurd g1 (h2 x (by omega))
    · exact absurd g2 (h2 (x + 1) (by omega))
  · rcases pl_c p k b with ⟨g1, g2⟩ | ⟨j, g1, g2, g3⟩
    · rw [g1, if_pos rfl]
      refine ⟨fun ⟨x, hx, hh⟩ => ?_, fun _ => by split <;> rfl⟩
      rcases hh with ⟨f1, f2⟩ | ⟨f1, f2⟩
      · exact absurd f2 (g2 (x + 1) (by omega))
      · exact absurd f1 (g2 x (by omega))
    · rw [h3, g3]
      simp (disch := omega) only [if_pos, if_neg, ite_true, ite_false, not_true_eq_false, Bool.false_eq_true, not_false_eq_true, eq_self, obs, ob1, ob2, obx, opx, li_0, li_1, li_2, li_3, li_4, li_5, li_6, li_7, li_8, li_9, li_10, li_14, li_16, li_20, li_21, li_24, li_25, li_32, li_44, li_48, li_57, li_60, li_64, li_81, li_84, li_99, li_100, li_101, li_108, li_111, li_115, li_116, li_120, li_140, li_255, li_500, li_999, li_1000, li_1092, li_1176, li_10000, li_100000, li_1000000, li_N, li_M, nI_add, pk_mul, pk_sub, pk_div, pk_rem, k_mod, nI_clamp, nI_leI, nI_ltI, nI_eq, qin_nI, nI_m1, nN_lt, nN_lt2, nN_le, nN_le2, nN_eq, nN_eq2, qin_nN, Option.some.injEq, Prod.mk.injEq, Sum.inl.injEq, sub_1]
      constructor
      · rintro ⟨x, hx, hh⟩
        rcases hh with ⟨f1, f2⟩ | ⟨f1, f2⟩
        · have e1 := hinj x i (by omega) h1 (f1.trans h2.symm)
          have e2 := hinj (x + 1) j (by omega) g1 (f2.trans g2.symm)
          by_cases q : i = j + 1
          · rw [if_pos q]
          · rw [if_neg q, if_pos (by omega)]
        · have e1 := hinj x j (by omega) g1 (f1.trans g2.symm)
          have e2 := hinj (x + 1) i (by omega) h1 (f2.trans h2.symm)
          rw [if_pos (by omega)]
      · intro h
        rw [if_neg, if_neg]
        · intro q
          exact h ⟨i, by omega, Or.inl ⟨h2, by rw [← q]; exact g2⟩⟩
        · intro q
          exact h ⟨j, by omega, Or.inr ⟨g2, by rw [← q]; exact h2⟩⟩
theorem uP_sym {p : Nat → Nat} {k a b : Nat} (h : uP p k a b) : uP p k b a := by
  obtain ⟨i, h1, h2⟩ := h
  exact ⟨i, h1, h2.elim Or.inr Or.inl⟩
theorem c_uses {S : qSt} {o a k kk s : Nat} {T : Tn} {p : Nat → Nat} (hT : isT S a T) (hv : vK kk T) (hkk : kk ≤ 21) (hR : isR S o p k) (hk : k ≤ 9) (hinj : ∀ i j, i < k → j < k → p i = p j → i = j) (hs : s < T 0 1) : (uP p k (T 1 s) (T 2 s) → F2_uses o a (nI s) S = some (nI 1)) ∧ (¬ uP p k (T 1 s) (T 2 s) → F2_uses o a (nI s) S = some (nI 0)) := by
  have h0 := hv.2.2.1
  have h9 := hv.2.1
  obtain ⟨t1, t2, t3, t4⟩ := hT.2.2.2.2 s hs
  obtain ⟨v1, v2, v3, v4, v5⟩ := hv.2.2.2.2.2.2.1 s hs
  have key : F2_uses o a (nI s) S = some (uI (pl p k (T 1 s)) (pl p k (T 2 s))) := by
    unfold F2_uses B2_uses_54 uI
    simp (disch := omega) only [if_pos, if_neg, ite_true, ite_false, not_true_eq_false, Bool.false_eq_true, not_false_eq_true, eq_self, obs, ob1, ob2, obx, opx, li_0, li_1, li_2, li_3, li_4, li_5, li_6, li_7, li_8, li_9, li_10, li_14, li_16, li_20, li_21, li_24, li_25, li_32, li_44, li_48, li_57, li_60, li_64, li_81, li_84, li_99, li_100, li_101, li_108, li_111, li_115, li_116, li_120, li_140, li_255, li_500, li_999, li_1000, li_1092, li_1176, li_10000, li_100000, li_1000000, li_N, li_M, nI_add, pk_mul, pk_sub, pk_div, pk_rem, k_mod, nI_clamp, nI_leI, nI_ltI, nI_eq, qin_nI, nI_m1, nN_lt, nN_lt2, nN_le, nN_le2, nN_eq, nN_eq2, qin_nN, Option.some.injEq, Prod.mk.injEq, Sum.inl.injEq, t1, t2, c_pl hR (show T 1 s < 9 by omega), c_pl hR (show T 2 s < 9 by omega)]
    generalize pl p k (T 1 s) = x
    generalize pl p k (T 2 s) = y
    by_cases q1 : x = nN <;> by_cases q2 : y = nN <;> by_cases q3 : x - y = nI 1 <;> by_cases q4 : y - x = nI 1 <;> simp [q1, q2, q3, q4]
  rw [key]
  have := uI_y (a := T 1 s) (b := T 2 s) hk hinj
  exact ⟨fun h => by rw [this.1 h], fun h => by rw [this.2 h]⟩
