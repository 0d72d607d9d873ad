/-! WHAT IS REMEMBERED -/
def hcP (hc : Nat) : Nat := if hc < 14 then hc + 1 else 14
def hPush (hc : Nat) (H : Nat → Tn) (T : Tn) : Nat → Tn := fun i => if hc < 14 then (if i = hc then T else H i) else (if i = 13 then T else H (i + 1))
theorem mod14 {old i : Nat} (h : old < 14) (hi : i < 28) : (old + i) % 14 = if old + i < 14 then old + i else if old + i < 28 then old + i - 14 else old + i - 28 := by
  split
  · omega
  · split <;> omega
section QACT
variable {L : Nat} {c : Nat → Nat} {T : Tn} {hc : Nat} {H : Nat → Tn} {F : Nat → Nat} {K : Nat → Tn} {S : qSt} {n : Nat} {T2 : Tn}
theorem OKA_push (ok : OKA L c T hc H F K) (h2 : vT T2) : OKA L c T2 (hcP hc) (hPush hc H T) F K := by
  obtain ⟨o1, o2, o3, o4, o5, o6⟩ := ok
  refine ⟨o1, o2, h2, ?_, fun i hi => ?_, o6⟩
  · unfold hcP
    split <;> omega
  · unfold hPush
    unfold hcP at hi
    split
    · split
      · exact o3
      · rw [if_pos (by assumption)] at hi
        exact o5 i (by omega)
    · rw [if_neg (by assumption)] at hi
      split
      · exact o3
      · exact o5 (i + 1) (by omega)
theorem c_keep (hR : RC S L c T hc H F K) (hv : vT T) (h14 : hc ≤ 14) (hn : 100 ≤ n) : ∃ S2, F0_keep n 8 S = some S2 ∧ RC S2 L c T (hcP hc) (hPush hc H T) F K ∧ kC S S2 ∧ ∀ x, x < 18 → S2 x = S x := by
  have hn20 := hv.2.2.1
  obtain ⟨h1, h2, ⟨old, h3, h4, h5, h6⟩, h7⟩ := id hR
  have hm : (old + hc) % 14 < 14 := Nat.mod_lt _ (by omega)
  obtain ⟨S1, e1, t1, k1⟩ := c_cp (o := 20 + 5 * ((old + hc) % 14)) (n := n) h2 hv (by omega) (by omega) hn
  have kx : ∀ x, x < 20 + 5 * ((old + hc) % 14) ∨ 20 + 5 * ((old + hc) % 14) + 4 < x → S1 x = S x := fun x hx => k1 x (by
    simp only [List.mem_cons, List.not_mem_nil, or_false]
    omega)
  have f1 : S1 18 1 = nI old := by rw [kx 18 (by omega)]; exact h4
  have f2 : S1 18 2 = nI hc := by rw [kx 18 (by omega)]; exact h5
  have pre : F0_keep n 8 S = (if 14 ≤ hc then some (qup S1 18 1 (nI ((old + 1) % 14))) else some (qup S1 18 2 (nI (hc + 1)))) := by
    unfold F0_keep
    rw [show (19 + 1 : Nat) = 20 from rfl]
    simp (disch := omega) only [if_pos, if_neg, ite_true, ite_false, not_true_eq_false, Bool.false_eq_true, not_false_eq_true, eq_self, obs, ob1, ob2, obx, opx, li_0, li_1, li_2, li_3, li_4, li_5, li_6, li_7, li_8, li_9, li_10, li_14, li_16, li_20, li_21, li_24, li_25, li_32, li_44, li_48, li_57, li_60, li_64, li_81, li_84, li_99, li_100, li_101, li_108, li_111, li_115, li_116, li_120, li_140, li_255, li_500, li_999, li_1000, li_1092, li_1176, li_10000, li_100000, li_1000000, li_N, li_M, nI_add, pk_mul, pk_sub, pk_div, pk_rem, k_mod, nI_clamp, nI_leI, nI_ltI, nI_eq, qin_nI, nI_m1, nN_lt, nN_lt2, nN_le, nN_le2, nN_eq, nN_eq2, qin_nN, Option.some.injEq, Prod.mk.injEq, Sum.inl.injEq, h4, h5, e1, f1, f2]
  have keepH : ∀ S2, (∀ x, x ≠ 18 → S2 x = S1 x) → ∀ i, i < 14 → (old + i) % 14 ≠ (old + hc) % 14 → isT S (20 + 5 * ((old + i) % 14)) (H i) → isT S2 (20 + 5 * ((old + i) % 14)) (H i) := fun S2 q i hi hne ht => isT_cg ht (fun x a b => by
    have : (old + i) % 14 < 14 := Nat.mod_lt _ (by omega)
    rw [q x (by omega), kx x (by omega)])
  have newH : ∀ S2, (∀ x, x ≠ 18 → S2 x = S1 x) → isT S2 (20 + 5 * ((old + hc) % 14)) T := fun S2 q => isT_cg t1 (fun x a b => q x (by omega))
  have rest : ∀ S2 : qSt, (∀ x, x ≠ 18 → S2 x = S1 x) → ((S2 1 1 = nI L ∧ ∀ i, i < L → S2 2 i = nI (c i)) ∧ isT S2 8 T) ∧ (∀ j, j < 2 → S2 92 j = nI (F j) ∧ (F j ≠ 0 → isT S2 (93 + 5 * j) (K j))) ∧ kC S S2 ∧ ∀ x, x < 18 → S2 x = S x := fun S2 q => by
    have g : ∀ x, x < 18 ∨ 90 ≤ x → S2 x = S x := fun x hx => by rw [q x (by omega), kx x (by omega)]
    refine ⟨⟨?_, isT_cg h2 (fun x a b => g x (by omega))⟩, fun j hj => ?_, fun x hx => g x (by omega), fun x hx => g x (by omega)⟩
    · rw [g 1 (by omega), g 2 (by omega)]
      exact h1
    · rw [g 92 (by omega)]
      exact ⟨(h7 j hj).1, fun hf => isT_cg ((h7 j hj).2 hf) (fun x a b => g x (by omega))⟩
  rw [pre]
  by_cases q : 14 ≤ hc
  · have hc14 : hc = 14 := by omega
    rw [if_pos q]
    have g : ∀ x, x ≠ 18 → qup S1 18 1 (nI ((old + 1) % 14)) x = S1 x := fun x hx => qup_o _ _ _ hx
    obtain ⟨r1, r2, r3, r4⟩ := rest _ g
    refine ⟨_, rfl, ⟨r1.1, r1.2, ⟨(old + 1) % 14, Nat.mod_lt _ (by omega), qup_s .., ?_, fun i hi => ?_⟩, r2⟩, r3, r4⟩
    · rw [qup_k _ _ _ (by omega), f2]
      unfold hcP
      rw [if_neg (by omega), hc14]
    · unfold hcP at hi
      rw [if_neg (by omega)] at hi
      unfold hPush
      rw [if_neg (by omega)]
      by_cases z : i = 13
      · rw [if_pos z]
        have := newH _ g
        rw [show ((old + 1) % 14 + i) % 14 = (old + hc) % 14 by omega]
        exact this
      · rw [if_neg z, show ((old + 1) % 14 + i) % 14 = (old + (i + 1)) % 14 by omega]
        exact keepH _ g (i + 1) (by omega) (by omega) (h6 (i + 1) (by omega))
  · rw [if_neg q]
    have g : ∀ x, x ≠ 18 → qup S1 18 2 (nI (hc + 1)) x = S1 x := fun x hx => qup_o _ _ _ hx
    obtain ⟨r1, r2, r3, r4⟩ := rest _ g
    refine ⟨_, rfl, ⟨r1.1, r1.2, ⟨old, h3, ?_, ?_, fun i hi => ?_⟩, r2⟩, r3, r4⟩
    · rw [qup_k _ _ _ (by omega), f1]
    · unfold hcP
      rw [if_pos (by omega), qup_s]
    · unfold hcP at hi
      rw [if_pos (by omega)] at hi
      unfold hPush
      rw [if_pos (by omega)]
      by_cases z : i = hc
      · rw [if_pos z, z]
        exact newH _ g
      · rw [if_neg z]
        exact keepH _ g i (by omega) (by omega) (h6 i (by omega))
theorem RC_town {S2 : qSt} (hR : RC S L c T hc H F K) (k : ∀ x, x ≤ 2 ∨ (18 ≤ x ∧ x ≤ 102) → S2 x = S x) (h : isT S2 8 T2) : RC S2 L c T2 hc H F K := by
  obtain ⟨h1, h2, ⟨old, h3, h4, h5, h6⟩, h7⟩ := hR
  refine ⟨?_, h, ⟨old, h3, ?_, ?_, fun i hi => isT_cg (h6 i hi) (fun x a b => k x ?_)⟩, fun j hj => ?_⟩
  · rw [k 1 (by omega), k 2 (by omega)]
    exact h1
  · rw [k 18 (by omega)]
    exact h4
  · rw [k 18 (by omega)]
    exact h5
  · have : (old + i) % 14 < 14 := Nat.mod_lt _ (by omega)
    omega
  · rw [k 92 (by omega)]
    exact ⟨(h7 j hj).1, fun hf => isT_cg ((h7 j hj).2 hf) (fun x a b => k x (by omega))⟩
theorem RM_town {S2 : qSt} (hR : RM S L c T hc H F K) (k : kp [114] S S2) (h : isM S2 114 0 T2) : RM S2 L c T2 hc H F K := by
  obtain ⟨h1, h2, ⟨h3, h4⟩, h5, h6⟩ := hR
  unfold RM
  rw [k 111 (by decide), k 112 (by decide), k 118 (by decide), k 119 (by decide)]
  exact ⟨h1, h, ⟨h3, fun i hi => isM_cg (h4 i hi) (k 116 (by decide))⟩, fun j hj => ⟨(h5 j hj).1, fun hf => isM_cg ((h5 j hj).2 hf) (k 117 (by decide))⟩, h6⟩
theorem c_acc (hR : RC S L c T hc H F K) (hv : vT T) (h14 : hc ≤ 14) (hT2 : isT S 13 T2) (hv2 : vT T2) (hn : 100 ≤ n) : ∃ S2, F7_acceptTrial n S = some S2 ∧ RC S2 L c T2 (hcP hc) (hPush hc H T) F K ∧ kC S S2 := by
  obtain ⟨S1, e1, r1, k1, k2⟩ := c_keep (n := n) hR hv h14 hn
  have hT3 : isT S1 13 T2 := isT_cg hT2 (fun x a b => k2 x (by omega))
  obtain ⟨S2, e2, t2, k3⟩ := c_cp (o := 8) (n := n) hT3 hv2 (by omega) (by omega) hn
  refine ⟨S2, ?_, RC_town r1 (fun x hx => k3 x (by simp only [List.mem_cons, List.not_mem_nil, or_false]; omega)) t2, kC_tr k1 (kC_kp k3 (by simp))⟩
  unfold F7_acceptTrial
  simp (disch := omega) only [if_pos, if_neg, ite_true, ite_false, not_true_eq_false, Bool.false_eq_true, not_false_eq_true, eq_self, obs, ob1, ob2, obx, opx, li_0, li_1, li_2, li_3, li_4, li_5, li_6, li_7, li_8, li_9, li_10, li_14, li_16, li_20, li_21, li_24, li_25, li_32, li_44, li_48, li_57, li_60, li_64, li_81, li_84, li_99, li_100, li_101, li_108, li_111, li_115, li_116, li_120, li_140, li_255, li_500, li_999, li_1000, li_1092, li_1176, li_10000, li_100000, li_1000000, li_N, li_M, nI_add, pk_mul, pk_sub, pk_div, pk_rem, k_mod, nI_clamp, nI_leI, nI_ltI, nI_eq, qin_nI, nI_m1, nN_lt, nN_lt2, nN_le, nN_le2, nN_eq, nN_eq2, qin_nN, Option.some.injEq, Prod.mk.injEq, Sum.inl.injEq, e1, e2]
theorem m_shift_loop {S0 : qSt} : ∀ j i f S, i + j = 1092 → j < f → kp [116] S0 S → (∀ r, r < 1176 → S 116 r = if r < i then S0 116 (r + 84) else S0 116 r) → ∃ S2, B8_remember_11 n f (nI i) S = B8_remember_39 n S2 ∧ kp [116] S0 S2 ∧ ∀ r, r < 1092 → S2 116 r = S0 116 (r + 84) := by
  intro j
  induction j with
  | zero =>
    intro i f S hi hf hk hr
    obtain ⟨g, rfl, hg⟩ := fuel_s hf
    refine ⟨S, ?_, hk, fun r h => ?_⟩
    · rw [B8_remember_11]
      simp (disch := omega) only [if_pos, if_neg, ite_true, ite_false, not_true_eq_false, Bool.false_eq_true, not_false_eq_true, eq_self, obs, ob1, ob2, obx, opx, li_0, li_1, li_2, li_3, li_4, li_5, li_6, li_7, li_8, li_9, li_10, li_14, li_16, li_20, li_21, li_24, li_25, li_32, li_44, li_48, li_57, li_60, li_64, li_81, li_84, li_99, li_100, li_101, li_108, li_111, li_115, li_116, li_120, li_140, li_255, li_500, li_999, li_1000, li_1092, li_1176, li_10000, li_100000, li_1000000, li_N, li_M, nI_add, pk_mul, pk_sub, pk_div, pk_rem, k_mod, nI_clamp, nI_leI, nI_ltI, nI_eq, qin_nI, nI_m1, nN_lt, nN_lt2, nN_le, nN_le2, nN_eq, nN_eq2, qin_nN, Option.some.injEq, Prod.mk.injEq, Sum.inl.injEq]
    · rw [hr r (by omega), if_pos (by omega)]
  | succ j ih =>
    intro i f S hi hf hk hr
    obtain ⟨g, rfl, hg⟩ := fuel_s hf
    have q := hr (i + 84) (by omega)
    rw [if_neg (by omega)] at q
    obtain ⟨S2, e2, r2⟩ := ih (i + 1) g (qup S 116 i (S0 116 (i + 84))) (by omega) (by omega) (kp_up hk (by simp)) (fun r h => by
      by_cases z : r = i
      · subst z
        rw [qup_s, if_pos (by omega)]
      · rw [qup_k _ _ _ z, hr r h]
        by_cases w : r < i
        · rw [if_pos w, if_pos (by omega)]
        · rw [if_neg w, if_neg (by omega)])
    refine ⟨S2, ?_, r2⟩
    rw [B8_remember_11]
    simp (disch := omega) only [if_pos, if_neg, ite_true, ite_false, not_true_eq_false, Bool.false_eq_true, not_false_eq_true, eq_self, obs, ob1, ob2, obx, opx, li_0, li_1, li_2, li_3, li_4, li_5, li_6, li_7, li_8, li_9, li_10, li_14, li_16, li_20, li_21, li_24, li_25, li_32, li_44, li_48, li_57, li_60, li_64, li_81, li_84, li_99, li_100, li_101, li_108, li_111, li_115, li_116, li_120, li_140, li_255, li_500, li_999, li_1000, li_1092, li_1176, li_10000, li_100000, li_1000000, li_N, li_M, nI_add, pk_mul, pk_sub, pk_div, pk_rem, k_mod, nI_clamp, nI_leI, nI_ltI, nI_eq, qin_nI, nI_m1, nN_lt, nN_lt2, nN_le, nN_le2, nN_eq, nN_eq2, qin_nN, Option.some.injEq, Prod.mk.injEq, Sum.inl.injEq, q]
    exact e2
theorem kx_114 : (kd 114).2 = 84 ∧ (kd 115).2 = 84 ∧ (kd 113).2 = 84 ∧ (kd 116).2 = 1176 ∧ (kd 117).2 = 168 := by decide +kernel
theorem m_rem_49 (hR : RM S L c T hc H F K) (hv : vT T) (hH : ∀ i, i < hc → vT (H i)) (h14 : hc < 14) (hn : 100 ≤ n) : ∃ S2, B8_remember_49 n S = some S2 ∧ RM S2 L c T (hc + 1) (fun i => if i = hc then T else H i) F K ∧ kM S S2 ∧ S2 111 0 = S 111 0 := by
  obtain ⟨x1, x2, x3, x4, x5⟩ := kx_114
  obtain ⟨h1, h2, ⟨h3, h4⟩, h5, h6⟩ := id hR
  obtain ⟨S2, e2, t2, k2, o2⟩ := m_ct (n := n) (S := S) (a := 114) (c := 116) (x := 0) (y := 84 * hc) (by omega) (by omega) (by omega) (by omega) (by omega) h2 hv.2.2.1 hn
  have k3 : kp [116, 111] S (qup S2 111 8 (nI (hc + 1))) := kp_up (kp_mono k2 (by simp)) (by simp)
  have z : S2 111 = S 111 := k2 111 (by decide)
  refine ⟨qup S2 111 8 (nI (hc + 1)), ?_, ?_, kM_kp k3 (by simp), ?_⟩
  · unfold B8_remember_49
    simp (disch := omega) only [if_pos, if_neg, ite_true, ite_false, not_true_eq_false, Bool.false_eq_true, not_false_eq_true, eq_self, obs, ob1, ob2, obx, opx, li_0, li_1, li_2, li_3, li_4, li_5, li_6, li_7, li_8, li_9, li_10, li_14, li_16, li_20, li_21, li_24, li_25, li_32, li_44, li_48, li_57, li_60, li_64, li_81, li_84, li_99, li_100, li_101, li_108, li_111, li_115, li_116, li_120, li_140, li_255, li_500, li_999, li_1000, li_1092, li_1176, li_10000, li_100000, li_1000000, li_N, li_M, nI_add, pk_mul, pk_sub, pk_div, pk_rem, k_mod, nI_clamp, nI_leI, nI_ltI, nI_eq, qin_nI, nI_m1, nN_lt, nN_lt2, nN_le, nN_le2, nN_eq, nN_eq2, qin_nN, Option.some.injEq, Prod.mk.injEq, Sum.inl.injEq, h3, e2, z]
  · refine ⟨?_, isM_cg h2 (k3 114 (by decide)), ⟨qup_s .., fun i hi => ?_⟩, ?_, ?_⟩
    · rw [qup_k _ _ _ (by omega), z, k3 112 (by decide)]
      exact h1
    · refine isM_cg (S := S2) ?_ (qup_o _ _ _ (by omega))
      dsimp only
      by_cases q : i = hc
      · rw [if_pos q, q]
        exact t2
      · rw [if_neg q]
        exact isM_cp (h4 i (by omega)) (hH i (by omega)).2.2.1 (fun r hr => o2 _ (by omega))
    · rw [k3 118 (by decide)]
      exact fun j hj => ⟨(h5 j hj).1, fun hf => isM_cg ((h5 j hj).2 hf) (k3 117 (by decide))⟩
    · rw [k3 119 (by decide)]
      exact h6
  · rw [qup_k _ _ _ (by omega), z]
theorem m_rem (hR : RM S L c T hc H F K) (ok : OKA L c T hc H F K) (hn : 2000 ≤ n) : ∃ S2, F8_remember n S = some S2 ∧ RM S2 L c T (hcP hc) (hPush hc H T) F K ∧ kM S S2 ∧ S2 111 0 = S 111 0 := by
  obtain ⟨-, -, hv, h14, hH, -⟩ := ok
  obtain ⟨h1, h2, ⟨h3, h4⟩, h5, h6⟩ := id hR
  by_cases q : hc = 14
  · obtain ⟨S1, e1, k1', r1⟩ := m_shift_loop (S0 := S) (n := n) 1092 0 n S (by omega) (by omega) kp_rfl (fun r hr => by rw [if_neg (by omega)])
    have k2 : kp [116, 111] S (qup S1 111 8 (nI 13)) := kp_up (kp_mono k1' (by simp)) (by simp)
    have z : S1 111 = S 111 := k1' 111 (by decide)
    have hR2 : RM (qup S1 111 8 (nI 13)) L c T 13 (fun i => H (i + 1)) F K := by
      refine ⟨?_, isM_cg h2 (k2 114 (by decide)), ⟨qup_s .., fun i hi => ?_⟩, ?_, ?_⟩
      · rw [qup_k _ _ _ (by omega), z, k2 112 (by decide)]
        exact h1
      · refine isM_cg (S := S1) ?_ (qup_o _ _ _ (by omega))
        refine isM_cp (h4 (i + 1) (by omega)) (hH (i + 1) (by omega)).2.2.1 (fun r hr => ?_)
        rw [r1 _ (by omega)]
        congr 1
        omega
      · rw [k2 118 (by decide)]
        exact fun j hj => ⟨(h5 j hj).1, fun hf => isM_cg ((h5 j hj).2 hf) (k2 117 (by decide))⟩
      · rw [k2 119 (by decide)]
        exact h6
    obtain ⟨S2, e2, r2, k3, z2⟩ := m_rem_49 (n := n) hR2 hv (fun i hi => hH (i + 1) (by omega)) (by omega) (by omega)
    refine ⟨S2, ?_, ?_, kM_tr (kM_kp k2 (by simp)) k3, ?_⟩
    · unfold F8_remember
      rw [h3, q]
      simp (disch := omega) only [if_pos, if_neg, ite_true, ite_false, not_true_eq_false, Bool.false_eq_true, not_false_eq_true, eq_self, obs, ob1, ob2, obx, opx, li_0, li_1, li_2, li_3, li_4, li_5, li_6, li_7, li_8, li_9, li_10, li_14, li_16, li_20, li_21, li_24, li_25, li_32, li_44, li_48, li_57, li_60, li_64, li_81, li_84, li_99, li_100, li_101, li_108, li_111, li_115, li_116, li_120, li_140, li_255, li_500, li_999, li_1000, li_1092, li_1176, li_10000, li_100000, li_1000000, li_N, li_M, nI_add, pk_mul, pk_sub, pk_div, pk_rem, k_mod, nI_clamp, nI_leI, nI_ltI, nI_eq, qin_nI, nI_m1, nN_lt, nN_lt2, nN_le, nN_le2, nN_eq, nN_eq2, qin_nN, Option.some.injEq, Prod.mk.injEq, Sum.inl.injEq]
      rw [e1]
      unfold B8_remember_39
      rw [z, h3, q]
      simp (disch := omega) only [if_pos, if_neg, ite_true, ite_false, not_true_eq_false, Bool.false_eq_true, not_false_eq_true, eq_self, obs, ob1, ob2, obx, opx, li_0, li_1, li_2, li_3, li_4, li_5, li_6, li_7, li_8, li_9, li_10, li_14, li_16, li_20, li_21, li_24, li_25, li_32, li_44, li_48, li_57, li_60, li_64, li_81, li_84, li_99, li_100, li_101, li_108, li_111, li_115, li_116, li_120, li_140, li_255, li_500, li_999, li_1000, li_1092, li_1176, li_10000, li_100000, li_1000000, li_N, li_M, nI_add, pk_mul, pk_sub, pk_div, pk_rem, k_mod, nI_clamp, nI_leI, nI_ltI, nI_eq, qin_nI, nI_m1, nN_lt, nN_lt2, nN_le, nN_le2, nN_eq, nN_eq2, qin_nN, Option.some.injEq, Prod.mk.injEq, Sum.inl.injEq]
      exact e2
    · have e3 : hPush hc H T = fun i => if i = 13 then T else H (i + 1) := by
        unfold hPush
        simp [q]
      have e4 : hcP hc = 13 + 1 := by
        unfold hcP
        rw [if_neg (by omega)]
      rw [e3, e4]
      exact r2
    · rw [z2, qup_k _ _ _ (by omega), z]
  · obtain ⟨S2, e2, r2, k3, z2⟩ := m_rem_49 (n := n) hR hv hH (by omega) (by omega)
    refine ⟨S2, ?_, ?_, k3, z2⟩
    · unfold F8_remember
      simp (disch := omega) only [if_pos, if_neg, ite_true, ite_false, not_true_eq_false, Bool.false_eq_true, not_false_eq_true, eq_self, obs, ob1, ob2, obx, opx, li_0, li_1, li_2, li_3, li_4, li_5, li_6, li_7, li_8, li_9, li_10, li_14, li_16, li_20, li_21, li_24, li_25, li_32, li_44, li_48, li_57, li_60, li_64, li_81, li_84, li_99, li_100, li_101, li_108, li_111, li_115, li_116, li_120, li_140, li_255, li_500, li_999, li_1000, li_1092, li_1176, li_10000, li_100000, li_1000000, li_N, li_M, nI_add, pk_mul, pk_sub, pk_div, pk_rem, k_mod, nI_clamp, nI_leI, nI_ltI, nI_eq, qin_nI, nI_m1, nN_lt, nN_lt2, nN_le, nN_le2, nN_eq, nN_eq2, qin_nN, Option.some.injEq, Prod.mk.injEq, Sum.inl.injEq, h3]
      exact e2
    · have e3 : hPush hc H T = fun i => if i = hc then T else H i := by
        unfold hPush
        simp only [if_pos (show hc < 14 by omega)]
      have e4 : hcP hc = hc + 1 := by
        unfold hcP
        rw [if_pos (by omega)]
      rw [e3, e4]
      exact r2
end QACT
