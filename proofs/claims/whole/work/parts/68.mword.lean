/-! WORDS, THE MODEL -/
def hL (S : qSt) : Prop := ∀ i, i < 25 → S 119 i = nI (lets.getD i 0)
theorem lets_lt : ∀ i, i < 25 → lets.getD i 0 < 256 := by decide +kernel
theorem wI_hd : ∀ w, w < 5 → lets.getD (5 * w) 0 = (if w = 0 then 111 else if w = 1 then 99 else if w = 2 then 108 else if w = 3 then 101 else 116) := by decide +kernel
section QMW
variable {L : Nat} {c : Nat → Nat}
theorem hL_up {S : qSt} {v : Int32} {k : Nat} (h : hL S) : hL (qup S 111 k v) := fun i hi => by
  rw [qup_o _ _ _ (by omega)]
  exact h i hi
theorem wI_le {i : Nat} : wI L c i ≤ 5 := by
  unfold wI
  repeat' split
  all_goals omega
theorem wI_lt {i : Nat} (h : wI L c i < 5) : i < L := by
  unfold wI at h
  split at h
  · assumption
  · omega
theorem w5_step {S : qSt} {i w n f : Nat} (ok : okX L c) (hx : mX S L c) (hl : hL S) (hi : i ≤ L) (h3 : S 111 3 = nI i) (h16 : S 111 16 = nI w) (hw : w < 5) : B8_readWord_5 n (f + 1) S = if i < L ∧ c i = lets.getD (5 * w) 0 then B8_readWord_60 n S else B8_readWord_5 n f (qup S 111 16 (nI (w + 1))) := by
  have hL := ok.1
  have w1 := hx.1
  have l1 := hl (5 * w) (by omega)
  have l2 := lets_lt (5 * w) (by omega)
  rw [B8_readWord_5]
  unfold B8_readWord_47
  by_cases q : i < L
  · have w2 := hx.2 i q
    have w3 := ok.2 i q
    by_cases q2 : c i = lets.getD (5 * w) 0
    · rw [if_pos (show i < L ∧ c i = lets.getD (5 * w) 0 from ⟨q, q2⟩)]
      simp (disch := omega) only [if_pos, if_neg, ite_true, ite_false, not_true_eq_false, Bool.false_eq_true, not_false_eq_true, eq_self, obs, ob1, ob2, obx, opx, li_0, li_1, li_2, li_3, li_4, li_5, li_6, li_7, li_8, li_9, li_10, li_14, li_16, li_20, li_21, li_24, li_25, li_32, li_44, li_48, li_57, li_60, li_64, li_81, li_84, li_99, li_100, li_101, li_108, li_111, li_115, li_116, li_120, li_140, li_255, li_500, li_999, li_1000, li_1092, li_1176, li_10000, li_100000, li_1000000, li_N, li_M, nI_add, pk_mul, pk_sub, pk_div, pk_rem, k_mod, nI_clamp, nI_leI, nI_ltI, nI_eq, qin_nI, nI_m1, nN_lt, nN_lt2, nN_le, nN_le2, nN_eq, nN_eq2, qin_nN, Option.some.injEq, Prod.mk.injEq, Sum.inl.injEq, w1, h3, h16, w2, l1, q2]
    · rw [if_neg (show ¬ (i < L ∧ c i = lets.getD (5 * w) 0) from fun v => q2 v.2)]
      simp (disch := omega) only [if_pos, if_neg, ite_true, ite_false, not_true_eq_false, Bool.false_eq_true, not_false_eq_true, eq_self, obs, ob1, ob2, obx, opx, li_0, li_1, li_2, li_3, li_4, li_5, li_6, li_7, li_8, li_9, li_10, li_14, li_16, li_20, li_21, li_24, li_25, li_32, li_44, li_48, li_57, li_60, li_64, li_81, li_84, li_99, li_100, li_101, li_108, li_111, li_115, li_116, li_120, li_140, li_255, li_500, li_999, li_1000, li_1092, li_1176, li_10000, li_100000, li_1000000, li_N, li_M, nI_add, pk_mul, pk_sub, pk_div, pk_rem, k_mod, nI_clamp, nI_leI, nI_ltI, nI_eq, qin_nI, nI_m1, nN_lt, nN_lt2, nN_le, nN_le2, nN_eq, nN_eq2, qin_nN, Option.some.injEq, Prod.mk.injEq, Sum.inl.injEq, w1, h3, h16, w2, l1]
  · rw [if_neg (show ¬ (i < L ∧ c i = lets.getD (5 * w) 0) from fun v => q v.1)]
    have : i = L := by omega
    subst this
    simp (disch := omega) only [if_pos, if_neg, ite_true, ite_false, not_true_eq_false, Bool.false_eq_true, not_false_eq_true, eq_self, obs, ob1, ob2, obx, opx, li_0, li_1, li_2, li_3, li_4, li_5, li_6, li_7, li_8, li_9, li_10, li_14, li_16, li_20, li_21, li_24, li_25, li_32, li_44, li_48, li_57, li_60, li_64, li_81, li_84, li_99, li_100, li_101, li_108, li_111, li_115, li_116, li_120, li_140, li_255, li_500, li_999, li_1000, li_1092, li_1176, li_10000, li_100000, li_1000000, li_N, li_M, nI_add, pk_mul, pk_sub, pk_div, pk_rem, k_mod, nI_clamp, nI_leI, nI_ltI, nI_eq, qin_nI, nI_m1, nN_lt, nN_lt2, nN_le, nN_le2, nN_eq, nN_eq2, qin_nN, Option.some.injEq, Prod.mk.injEq, Sum.inl.injEq, w1, h3, h16]
theorem m_word {S : qSt} {i n : Nat} (ok : okX L c) (hx : mX S L c) (hl : hL S) (hi : i ≤ L) (h3 : S 111 3 = nI i) (hn : 100 ≤ n) : F8_readWord n S = B8_readWord_60 n (qup S 111 16 (nI (wI L c i))) := by
  obtain ⟨g, hg⟩ : ∃ g, n = g + 1 + 1 + 1 + 1 + 1 + 1 := ⟨n - 6, by omega⟩
  have st : ∀ w f, w < 5 → B8_readWord_5 n (f + 1) (qup S 111 16 (nI w)) = if i < L ∧ c i = lets.getD (5 * w) 0 then B8_readWord_60 n (qup S 111 16 (nI w)) else B8_readWord_5 n f (qup S 111 16 (nI (w + 1))) := fun w f hw => by
    have := w5_step (n := n) (f := f) ok (mX_up (v := nI w) hx (show 16 ≠ 2 by omega)) (hL_up (v := nI w) (k := 16) hl) hi (by rw [qup_k _ _ _ (by omega)]; exact h3) (qup_s ..) hw
    rw [qup_qup] at this
    exact this
  have fin : B8_readWord_5 n (g + 1) (qup S 111 16 (nI 5)) = B8_readWord_60 n (qup S 111 16 (nI 5)) := by
    rw [B8_readWord_5]
    simp (disch := omega) only [if_pos, if_neg, ite_true, ite_false, not_true_eq_false, Bool.false_eq_true, not_false_eq_true, eq_self, obs, ob1, ob2, obx, opx, li_0, li_1, li_2, li_3, li_4, li_5, li_6, li_7, li_8, li_9, li_10, li_14, li_16, li_20, li_21, li_24, li_25, li_32, li_44, li_48, li_57, li_60, li_64, li_81, li_84, li_99, li_100, li_101, li_108, li_111, li_115, li_116, li_120, li_140, li_255, li_500, li_999, li_1000, li_1092, li_1176, li_10000, li_100000, li_1000000, li_N, li_M, nI_add, pk_mul, pk_sub, pk_div, pk_rem, k_mod, nI_clamp, nI_leI, nI_ltI, nI_eq, qin_nI, nI_m1, nN_lt, nN_lt2, nN_le, nN_le2, nN_eq, nN_eq2, qin_nN, Option.some.injEq, Prod.mk.injEq, Sum.inl.injEq, qup_s]
  have e0 : lets.getD (5 * 0) 0 = 111 := rfl
  have e1 : lets.getD (5 * 1) 0 = 99 := rfl
  have e2 : lets.getD (5 * 2) 0 = 108 := rfl
  have e3 : lets.getD (5 * 3) 0 = 101 := rfl
  have e4 : lets.getD (5 * 4) 0 = 116 := rfl
  have s0 : F8_readWord n S = B8_readWord_5 n n (qup S 111 16 (nI 0)) := rfl
  rw [s0]
  have s1 := st 0 (g + 1 + 1 + 1 + 1 + 1) (by omega)
  have s2 := st 1 (g + 1 + 1 + 1 + 1) (by omega)
  have s3 := st 2 (g + 1 + 1 + 1) (by omega)
  have s4 := st 3 (g + 1 + 1) (by omega)
  have s5 := st 4 (g + 1) (by omega)
  rw [e0] at s1
  rw [e1] at s2
  rw [e2] at s3
  rw [e3] at s4
  rw [e4] at s5
  have s6 : B8_readWord_5 n n (qup S 111 16 (nI 0)) = B8_readWord_5 n (g + 1 + 1 + 1 + 1 + 1 + 1) (qup S 111 16 (nI 0)) := by
    congr 1
  rw [s6, s1]
  unfold wI
  by_cases q : i < L
  · rw [if_pos q]
    by_cases q0 : c i = 111
    · rw [if_pos q0, if_pos (show i < L ∧ c i = 111 from ⟨q, q0⟩)]
    rw [if_neg q0, if_neg (show ¬ (i < L ∧ c i = 111) from fun v => q0 v.2), s2]
    by_cases q1 : c i = 99
    · rw [if_pos q1, if_pos (show i < L ∧ c i = 99 from ⟨q, q1⟩)]
    rw [if_neg q1, if_neg (show ¬ (i < L ∧ c i = 99) from fun v => q1 v.2), s3]
    by_cases q2 : c i = 108
    · rw [if_pos q2, if_pos (show i < L ∧ c i = 108 from ⟨q, q2⟩)]
    rw [if_neg q2, if_neg (show ¬ (i < L ∧ c i = 108) from fun v => q2 v.2), s4]
    by_cases q3 : c i = 101
    · rw [if_pos q3, if_pos (show i < L ∧ c i = 101 from ⟨q, q3⟩)]
    rw [if_neg q3, if_neg (show ¬ (i < L ∧ c i = 101) from fun v => q3 v.2), s5]
    by_cases q4 : c i = 116
    · rw [if_pos q4, if_pos (show i < L ∧ c i = 116 from ⟨q, q4⟩)]
    rw [if_neg q4, if_neg (show ¬ (i < L ∧ c i = 116) from fun v => q4 v.2), fin]
  · rw [if_neg q, if_neg (show ¬ (i < L ∧ c i = 111) from fun v => q v.1), s2, if_neg (show ¬ (i < L ∧ c i = 99) from fun v => q v.1), s3, if_neg (show ¬ (i < L ∧ c i = 108) from fun v => q v.1), s4, if_neg (show ¬ (i < L ∧ c i = 101) from fun v => q v.1), s5, if_neg (show ¬ (i < L ∧ c i = 116) from fun v => q v.1), fin]
theorem m_let {n w : Nat} (ok : okX L c) (hw : w < 5) : ∀ j k f S i, k + j = ll w → j < f → mX S L c → hL S → S 111 16 = nI w → i ≤ L → S 111 3 = nI i → B8_readWord_72 n f (nI k) S = some (nI (mt L c w j k i).2, qup S 111 3 (nI (mt L c w j k i).1)) := by
  have hL := ok.1
  obtain ⟨-, -, -, e4, e5⟩ := ll_e w hw
  intro j
  induction j with
  | zero =>
    intro k f S i hk hf hx hl h16 hi h3
    obtain ⟨g, rfl, hg⟩ := fuel_s hf
    have m5 : 5 * nI w + nI k = nI (5 * w + k) := by
      rw [show (5 : Int32) = nI 5 from rfl, pk_mul, nI_add]
    rw [B8_readWord_72, mt, qup_id h3]
    rcases e5 with e5 | ⟨e5, e6⟩
    · rw [if_pos (show (5 : Int32) ≤ nI k from nI_le (a := 5) (by omega) (by omega))]
      rfl
    · have l1 := hl (5 * w + k) (by omega)
      rw [show 5 * w + k = 5 * w + 4 by omega, e6] at l1
      rw [if_neg (show ¬ (5 : Int32) ≤ nI k from nI_ge (b := 5) (by omega) (by omega)), h16, m5, if_pos ((qin_nI (by omega)).mpr (by omega)), nI_clamp (by omega), show 5 * w + k = 5 * w + 4 by omega, l1, if_pos (show nI 0 = (0 : Int32) from rfl)]
      rfl
  | succ j ih =>
    intro k f S i hk hf hx hl h16 hi h3
    obtain ⟨g, rfl, hg⟩ := fuel_s hf
    obtain ⟨d1, d2, d3⟩ := ll_d w hw k (by omega)
    have m5 : 5 * nI w + nI k = nI (5 * w + k) := by
      rw [show (5 : Int32) = nI 5 from rfl, pk_mul, nI_add]
    have l1 := hl (5 * w + k) (by omega)
    have w1 := hx.1
    rw [B8_readWord_72, if_neg (show ¬ (5 : Int32) ≤ nI k from nI_ge (b := 5) (by omega) (by omega)), h16, m5, if_pos ((qin_nI (by omega)).mpr (by omega)), nI_clamp (by omega), l1, if_neg (show ¬ nI (lets.getD (5 * w + k) 0) = (0 : Int32) from nI_ne0 (by omega) (by omega)), h3, w1, mt]
    by_cases q : i < L
    · have w2 := hx.2 i q
      have w3 := ok.2 i q
      rw [if_neg (show ¬ nI i = nI L from fun v => by have := nI_inj (by omega) (by omega) v; omega), if_pos ((qin_nI (by omega)).mpr (by omega)), nI_clamp (by omega), w2]
      by_cases q2 : c i = lets.getD (5 * w + k) 0
      · rw [if_pos (show i < L ∧ c i = lets.getD (5 * w + k) 0 from ⟨q, q2⟩), if_pos (congrArg nI q2), obs1, nI_1, nI_1, ih (k + 1) g _ (i + 1) (by omega) (by omega) (mX_up hx (by omega)) (hL_up hl) (by rw [qup_k _ _ _ (by omega)]; exact h16) (by omega) (qup_s ..), qup_qup]
      · rw [if_neg (show ¬ (i < L ∧ c i = lets.getD (5 * w + k) 0) from fun v => q2 v.2), if_neg (show ¬ nI (c i) = nI (lets.getD (5 * w + k) 0) from fun v => q2 (nI_inj (by omega) (by omega) v)), qup_id h3]
        rfl
    · rw [if_neg (show ¬ (i < L ∧ c i = lets.getD (5 * w + k) 0) from fun v => q v.1), if_pos (show nI i = nI L from congrArg nI (by omega)), qup_id h3]
      rfl
end QMW
