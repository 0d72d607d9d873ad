/-! WORDS, BLANKS, NUMBERS -/
def wI (L : Nat) (c : Nat → Nat) (i : Nat) : Nat := if i < L then (if c i = 111 then 0 else if c i = 99 then 1 else if c i = 108 then 2 else if c i = 101 then 3 else if c i = 116 then 4 else 5) else 5
def ll (w : Nat) : Nat := if w = 1 then 5 else 4
def mt (L : Nat) (c : Nat → Nat) (w : Nat) : Nat → Nat → Nat → Nat × Nat
  | 0, _, i => (i, 1)
  | j + 1, k, i => if i < L ∧ c i = lets.getD (5 * w + k) 0 then mt L c w j (k + 1) (i + 1) else (i, 0)
def nE (L : Nat) (c : Nat → Nat) (i : Nat) : Nat := if dg L c (i + 1) < 10 then i + 2 else i + 1
def nV (L : Nat) (c : Nat → Nat) (i : Nat) : Nat := if dg L c (i + 1) < 10 then 10 * dg L c i + dg L c (i + 1) else dg L c i
theorem qup_id {S : qSt} {o k : Nat} {v : Int32} (h : S o k = v) : qup S o k v = S := by
  funext x j
  rw [qup_e]
  by_cases q : x = o
  · by_cases q2 : j = k
    · rw [if_pos q, if_pos q2, q, q2, h]
    · rw [if_pos q, if_neg q2]
  · rw [if_neg q]
theorem ll_d : ∀ w, w < 5 → ∀ k, k < ll w → qsb w k = nI (lets.getD (5 * w + k) 0) ∧ lets.getD (5 * w + k) 0 < 256 ∧ lets.getD (5 * w + k) 0 ≠ 0 := by decide +kernel
theorem ll_e : ∀ w, w < 5 → qslen w = nI (ll w) ∧ qSlen.getD w 0 = ll w ∧ qsemp w = 0 ∧ ll w ≤ 5 ∧ (ll w = 5 ∨ (ll w = 4 ∧ lets.getD (5 * w + 4) 0 = 0)) := by decide +kernel
section QWORD
variable {L : Nat} {c : Nat → Nat}
theorem mt_le {w : Nat} : ∀ j k i, i ≤ L → (mt L c w j k i).1 ≤ L ∧ ((mt L c w j k i).2 = 1 ∧ (mt L c w j k i).1 = i + j ∨ (mt L c w j k i).2 = 0) := by
  intro j
  induction j with
  | zero => exact fun k i hi => ⟨hi, Or.inl ⟨rfl, rfl⟩⟩
  | succ j ih =>
    intro k i hi
    rw [mt]
    by_cases q : i < L ∧ c i = lets.getD (5 * w + k) 0
    · rw [if_pos q]
      obtain ⟨h1, h2⟩ := ih (k + 1) (i + 1) (by omega)
      refine ⟨h1, ?_⟩
      rcases h2 with ⟨h2, h3⟩ | h2
      · exact Or.inl ⟨h2, by omega⟩
      · exact Or.inr h2
    · rw [if_neg q]
      exact ⟨hi, Or.inr rfl⟩
theorem cX_up {S : qSt} {v : Int32} {o k : Nat} (h : cX S L c) (ho : 2 < o) : cX (qup S o k v) L c := by
  unfold cX
  rw [qup_o _ _ _ (by omega), qup_o _ _ _ (by omega)]
  exact h
theorem c_let {n w : Nat} (ok : okX L c) (hw : w < 5) : ∀ j k f S i, k + j = ll w → j < f → cX S L c → i ≤ L → S 4 4 = nI i → B1_readLetters_2 n w f (nI k) S = some (nI (mt L c w j k i).2, qup S 4 4 (nI (mt L c w j k i).1)) := by
  have hL := ok.1
  obtain ⟨e1, e2, e3, e4, -⟩ := ll_e w hw
  intro j
  induction j with
  | zero =>
    intro k f S i hk hf hx hi h4
    obtain ⟨g, rfl, hg⟩ := fuel_s hf
    rw [B1_readLetters_2, e1, if_pos (nI_le (by omega) (by omega)), B1_readLetters_44, e3, if_neg (nn_p rfl), mt, qup_id h4]
    rfl
  | succ j ih =>
    intro k f S i hk hf hx hi h4
    obtain ⟨g, rfl, hg⟩ := fuel_s hf
    obtain ⟨d1, d2, d3⟩ := ll_d w hw k (by omega)
    have hq : qin (nI k) (qSlen.getD w 0) = true := (qin_nI (by omega)).mpr (by rw [e2]; omega)
    rw [B1_readLetters_2, e1, if_neg (nI_ge (by omega) (by omega)), h4, c_code hx ok (by omega), ob1_s, if_pos hq, nI_clamp (by omega), d1, mt]
    by_cases q : i < L ∧ c i = lets.getD (5 * w + k) 0
    · rw [if_pos q, if_pos (chI_y q), obs1, nI_1, nI_1, ih (k + 1) g _ (i + 1) (by omega) (by omega) (cX_up hx (by omega)) (by omega) (qup_s ..), qup_qup]
    · rw [if_neg q, if_neg (chI_nn ok d2 q), qup_id h4]
      rfl
theorem c_blank {S : qSt} {i : Nat} (ok : okX L c) (hx : cX S L c) (hi : i ≤ L) (h4 : S 4 4 = nI i) : F1_readBlank S = if i < L ∧ c i = 32 then some (nI 1, qup S 4 4 (nI (i + 1))) else some (nI 0, S) := by
  have hL := ok.1
  unfold F1_readBlank
  rw [h4, c_code hx ok (by omega), ob1_s]
  by_cases q : i < L ∧ c i = 32
  · rw [if_pos q, if_pos (show chI L c i = 32 from chI_y q), obs1, nI_1]
    rfl
  · rw [if_neg q, if_neg (show ¬ chI L c i = 32 from chI_nn (k := 32) ok (by omega) q)]
    rfl
theorem nV_lt {i : Nat} (h : dg L c i < 10) : nV L c i < 100 := by
  unfold nV
  split <;> omega
theorem nE_le {i : Nat} (h : dg L c i < 10) : nE L c i ≤ L ∧ i < nE L c i := by
  have h1 := dg_lt h
  unfold nE
  split
  · have := dg_lt (c := c) (i := i + 1) (by assumption)
    omega
  · omega
theorem c_num {S : qSt} {i n : Nat} (ok : okX L c) (hx : cX S L c) (h4 : S 4 4 = nI i) (hd : dg L c i < 10) (hn : 100 ≤ n) : F1_readNumber n S = some (nI (nV L c i), qup S 4 4 (nI (nE L c i))) := by
  have hL := ok.1
  have hi := dg_lt hd
  obtain ⟨g, rfl⟩ : ∃ g, n = g + 1 + 1 + 1 := ⟨n - 3, by omega⟩
  have hx1 : ∀ v, cX (qup S 4 4 v) L c := fun v => cX_up hx (by omega)
  have d0 := c_dig hx ok (show i < 1000 by omega)
  have d1 := c_dig (hx1 (nI (i + 1))) ok (show i + 1 < 1000 by omega)
  have e0 := dgI_y hd
  have l0 : ¬ (2 : Int32) ≤ 0 := by decide
  have l1 : ¬ (2 : Int32) ≤ 0 + 1 := by decide
  have l2 : (2 : Int32) ≤ 0 + 1 + 1 := by decide
  have ne : ∀ k, k < 10 → ¬ nI k = (-999 : Int32) := fun k hk v => nN_ne (show k < 2 ^ 31 by omega) v
  have m1 : 10 * (0 : Int32) + nI (dg L c i) = nI (dg L c i) := by
    rw [show (10 : Int32) = nI 10 from rfl, show (0 : Int32) = nI 0 from rfl, pk_mul, nI_add]
    congr 1
    omega
  unfold F1_readNumber nV nE
  rw [B1_readNumber_4, if_neg l0, h4, d0, ob1_s, e0, if_neg (ne _ hd), ob1_s, obs1, nI_1, m1, B1_readNumber_4, if_neg l1, qup_s, d1, ob1_s]
  by_cases q : dg L c (i + 1) < 10
  · have m2 : 10 * nI (dg L c i) + nI (dg L c (i + 1)) = nI (10 * dg L c i + dg L c (i + 1)) := by
      rw [show (10 : Int32) = nI 10 from rfl, pk_mul, nI_add]
    rw [dgI_y q, if_neg (ne _ q), ob1_s, obs1, nI_1, qup_qup, m2, B1_readNumber_4, if_pos l2, if_pos q, if_pos q]
  · rw [if_pos (show dgI L c (i + 1) = (-999) from dgI_n q), if_neg q, if_neg q]
theorem mX_up {S : qSt} {v : Int32} {k : Nat} (h : mX S L c) (hk : k ≠ 2) : mX (qup S 111 k v) L c := by
  unfold mX
  rw [qup_k _ _ _ (Ne.symm hk), qup_o _ _ _ (by omega)]
  exact h
theorem m_num {S : qSt} {i : Nat} (ok : okX L c) (hx : mX S L c) (hi : i ≤ L) (h3 : S 111 3 = nI i) : F8_readNumber S = if dg L c i < 10 then some (nI (nV L c i), qup S 111 3 (nI (nE L c i))) else some (nN, S) := by
  have hL := ok.1
  have ne : ∀ k, k < 10 → ¬ ¬ ¬ nI k = (-999 : Int32) := fun k hk => nn_p (fun v => nN_ne (show k < 2 ^ 31 by omega) v)
  have d0 := m_dig (lo := 0) (hi := 9) hx ok h3 (by omega) (by omega) (by omega)
  unfold F8_readNumber nV nE B8_readNumber_28
  by_cases q : dg L c i < 10
  · rw [if_pos (show 0 ≤ dg L c i ∧ dg L c i ≤ 9 by omega)] at d0
    have d1 := m_dig (lo := 0) (hi := 9) (mX_up (v := nI (i + 1)) hx (show 3 ≠ 2 by omega)) ok (qup_s ..) (show i + 1 < 1000 by omega) (by omega) (by omega)
    rw [if_pos q]
    by_cases q1 : dg L c (i + 1) < 10
    · rw [if_pos (show 0 ≤ dg L c (i + 1) ∧ dg L c (i + 1) ≤ 9 by omega), qup_qup] at d1
      simp (disch := omega) only [if_pos, if_neg, ite_true, ite_false, not_true_eq_false, Bool.false_eq_true, not_false_eq_true, eq_self, obs, ob1, ob2, obx, opx, li_0, li_1, li_2, li_3, li_4, li_5, li_6, li_7, li_8, li_9, li_10, li_14, li_16, li_20, li_21, li_24, li_25, li_32, li_44, li_48, li_57, li_60, li_64, li_81, li_84, li_99, li_100, li_101, li_108, li_111, li_115, li_116, li_120, li_140, li_255, li_500, li_999, li_1000, li_1092, li_1176, li_10000, li_100000, li_1000000, li_N, li_M, nI_add, pk_mul, pk_sub, pk_div, pk_rem, k_mod, nI_clamp, nI_leI, nI_ltI, nI_eq, qin_nI, nI_m1, nN_lt, nN_lt2, nN_le, nN_le2, nN_eq, nN_eq2, qin_nN, Option.some.injEq, Prod.mk.injEq, Sum.inl.injEq, d0, d1, Nat.add_assoc]
    · rw [if_neg (by omega)] at d1
      simp (disch := omega) only [if_pos, if_neg, ite_true, ite_false, not_true_eq_false, Bool.false_eq_true, not_false_eq_true, eq_self, obs, ob1, ob2, obx, opx, li_0, li_1, li_2, li_3, li_4, li_5, li_6, li_7, li_8, li_9, li_10, li_14, li_16, li_20, li_21, li_24, li_25, li_32, li_44, li_48, li_57, li_60, li_64, li_81, li_84, li_99, li_100, li_101, li_108, li_111, li_115, li_116, li_120, li_140, li_255, li_500, li_999, li_1000, li_1092, li_1176, li_10000, li_100000, li_1000000, li_N, li_M, nI_add, pk_mul, pk_sub, pk_div, pk_rem, k_mod, nI_clamp, nI_leI, nI_ltI, nI_eq, qin_nI, nI_m1, nN_lt, nN_lt2, nN_le, nN_le2, nN_eq, nN_eq2, qin_nN, Option.some.injEq, Prod.mk.injEq, Sum.inl.injEq, d0, d1]
  · rw [if_neg (by omega)] at d0
    simp (disch := omega) only [if_pos, if_neg, ite_true, ite_false, not_true_eq_false, Bool.false_eq_true, not_false_eq_true, eq_self, obs, ob1, ob2, obx, opx, li_0, li_1, li_2, li_3, li_4, li_5, li_6, li_7, li_8, li_9, li_10, li_14, li_16, li_20, li_21, li_24, li_25, li_32, li_44, li_48, li_57, li_60, li_64, li_81, li_84, li_99, li_100, li_101, li_108, li_111, li_115, li_116, li_120, li_140, li_255, li_500, li_999, li_1000, li_1092, li_1176, li_10000, li_100000, li_1000000, li_N, li_M, nI_add, pk_mul, pk_sub, pk_div, pk_rem, k_mod, nI_clamp, nI_leI, nI_ltI, nI_eq, qin_nI, nI_m1, nN_lt, nN_lt2, nN_le, nN_le2, nN_eq, nN_eq2, qin_nN, Option.some.injEq, Prod.mk.injEq, Sum.inl.injEq, d0]
theorem m_blank {S : qSt} {i : Nat} (ok : okX L c) (hx : mX S L c) (hi : i ≤ L) (h3 : S 111 3 = nI i) : F8_readBlank S = if i < L ∧ c i = 32 then some (nI 1, qup S 111 3 (nI (i + 1))) else some (nI 0, S) := by
  have hL := ok.1
  have w := hx.1
  unfold F8_readBlank
  by_cases q : i < L
  · have w2 := hx.2 i q
    have w3 := ok.2 i q
    by_cases q2 : c i = 32
    · rw [if_pos (show i < L ∧ c i = 32 from ⟨q, q2⟩)]
      simp (disch := omega) only [if_pos, if_neg, ite_true, ite_false, not_true_eq_false, Bool.false_eq_true, not_false_eq_true, eq_self, obs, ob1, ob2, obx, opx, li_0, li_1, li_2, li_3, li_4, li_5, li_6, li_7, li_8, li_9, li_10, li_14, li_16, li_20, li_21, li_24, li_25, li_32, li_44, li_48, li_57, li_60, li_64, li_81, li_84, li_99, li_100, li_101, li_108, li_111, li_115, li_116, li_120, li_140, li_255, li_500, li_999, li_1000, li_1092, li_1176, li_10000, li_100000, li_1000000, li_N, li_M, nI_add, pk_mul, pk_sub, pk_div, pk_rem, k_mod, nI_clamp, nI_leI, nI_ltI, nI_eq, qin_nI, nI_m1, nN_lt, nN_lt2, nN_le, nN_le2, nN_eq, nN_eq2, qin_nN, Option.some.injEq, Prod.mk.injEq, Sum.inl.injEq, w, h3, w2, q2]
    · rw [if_neg (show ¬ (i < L ∧ c i = 32) from fun v => q2 v.2)]
      simp (disch := omega) only [if_pos, if_neg, ite_true, ite_false, not_true_eq_false, Bool.false_eq_true, not_false_eq_true, eq_self, obs, ob1, ob2, obx, opx, li_0, li_1, li_2, li_3, li_4, li_5, li_6, li_7, li_8, li_9, li_10, li_14, li_16, li_20, li_21, li_24, li_25, li_32, li_44, li_48, li_57, li_60, li_64, li_81, li_84, li_99, li_100, li_101, li_108, li_111, li_115, li_116, li_120, li_140, li_255, li_500, li_999, li_1000, li_1092, li_1176, li_10000, li_100000, li_1000000, li_N, li_M, nI_add, pk_mul, pk_sub, pk_div, pk_rem, k_mod, nI_clamp, nI_leI, nI_ltI, nI_eq, qin_nI, nI_m1, nN_lt, nN_lt2, nN_le, nN_le2, nN_eq, nN_eq2, qin_nN, Option.some.injEq, Prod.mk.injEq, Sum.inl.injEq, w, h3, w2]
  · rw [if_neg (show ¬ (i < L ∧ c i = 32) from fun v => q v.1)]
    have : i = L := by omega
    simp (disch := omega) only [if_pos, if_neg, ite_true, ite_false, not_true_eq_false, Bool.false_eq_true, not_false_eq_true, eq_self, obs, ob1, ob2, obx, opx, li_0, li_1, li_2, li_3, li_4, li_5, li_6, li_7, li_8, li_9, li_10, li_14, li_16, li_20, li_21, li_24, li_25, li_32, li_44, li_48, li_57, li_60, li_64, li_81, li_84, li_99, li_100, li_101, li_108, li_111, li_115, li_116, li_120, li_140, li_255, li_500, li_999, li_1000, li_1092, li_1176, li_10000, li_100000, li_1000000, li_N, li_M, nI_add, pk_mul, pk_sub, pk_div, pk_rem, k_mod, nI_clamp, nI_leI, nI_ltI, nI_eq, qin_nI, nI_m1, nN_lt, nN_lt2, nN_le, nN_le2, nN_eq, nN_eq2, qin_nN, Option.some.injEq, Prod.mk.injEq, Sum.inl.injEq, w, h3, this]
end QWORD
