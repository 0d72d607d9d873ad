/-! A PLAN IS RUN -/
def rnB (x : Option Tn) (T : Tn) (f : Tn → Nat × Tn) : Nat × Tn :=
  match x with
  | none => (0, T)
  | some T2 => ((f T2).1 + 1, (f T2).2)
def runL : List Cm → Tn → Nat × Tn
  | [], T => (0, T)
  | q :: l, T => rnB (doC T q) T (runL l)
theorem runL_n {q : Cm} {l : List Cm} {T : Tn} (h : doC T q = none) : runL (q :: l) T = (0, T) := by
  rw [runL, h]
  rfl
theorem runL_s {q : Cm} {l : List Cm} {T T2 : Tn} (h : doC T q = some T2) : runL (q :: l) T = ((runL l T2).1 + 1, (runL l T2).2) := by
  rw [runL, h]
  rfl
theorem runL_v : ∀ (l : List Cm) (T : Tn), vT T → (∀ q ∈ l, okC q) → vT (runL l T).2 := by
  intro l
  induction l with
  | nil => exact fun T h _ => h
  | cons q l ih =>
    intro T hv hq
    cases z : doC T q with
    | none =>
      rw [runL_n z]
      exact hv
    | some T2 =>
      rw [runL_s z]
      exact ih T2 (doC_v hv (hq q List.mem_cons_self) T2 z) (fun x hx => hq x (List.mem_cons_of_mem _ hx))
theorem std_kp {S S2 : qSt} {P : List Nat} (k : kp P S S2) (h5 : 5 ∉ P) (h6 : 6 ∉ P) (h7 : 7 ∉ P) : ∀ (l : List Cm) (i : Nat), std S i l → std S2 i l := by
  intro l
  induction l with
  | nil => exact fun _ _ => trivial
  | cons q l ih =>
    intro i h
    exact ⟨tab_cg h.1 (by rw [k 5 h5]) (by rw [k 6 h6]) (by rw [k 7 h7]), ih (i + 1) h.2⟩
section QRUN
variable {L : Nat} {c : Nat → Nat}
theorem c_run {n m : Nat} (hm : m ≤ 28) : ∀ (l : List Cm) (k f : Nat) (S : qSt) (T : Tn), k + l.length = m → l.length < f → isT S 13 T → vT T → std S k l → (∀ q ∈ l, okC q) → S 4 0 = nI m → ∃ S2, B7_runPlan_40 n f (nI k) S = B7_runPlan_65 n (nI (k + (runL l T).1)) S2 ∧ kp (pT 13) S S2 ∧ isT S2 13 (runL l T).2 := by
  intro l
  induction l with
  | nil =>
    intro k f S T hk hf hT hv hs hq h4
    obtain ⟨g, rfl, hg⟩ := fuel_s hf
    simp only [List.length_nil] at hk
    refine ⟨S, ?_, kp_rfl, hT⟩
    rw [B7_runPlan_40, h4, if_pos (nI_le (by omega) (by omega))]
    rfl
  | cons q l ih =>
    intro k f S T hk hf hT hv hs hq h4
    obtain ⟨g, rfl, hg⟩ := fuel_s hf
    simp only [List.length_cons] at hk hf
    have hq0 := hq q List.mem_cons_self
    obtain ⟨x, S2, e2, k2, hx, y1, y2⟩ := c_do hT hv hs.1 hq0 (show k < 140 by omega)
    rw [B7_runPlan_40, h4, if_neg (nI_ge (by omega) (by omega)), e2, ob2_s]
    cases z : doC T q with
    | none =>
      obtain ⟨z1, z2⟩ := y2 z
      rw [runL_n z, if_pos (show ¬ nI x = (0 : Int32) from nI_ne0 (by omega) (by omega))]
      exact ⟨S2, rfl, k2, z2⟩
    | some T2 =>
      obtain ⟨z1, z2⟩ := y1 T2 z
      subst z1
      have h42 : S2 4 0 = nI m := by
        rw [k2 4 (by decide)]
        exact h4
      obtain ⟨S3, e3, k3, t3⟩ := ih (k + 1) g S2 T2 (by omega) (by omega) z2 (doC_v hv hq0 T2 z) (std_kp k2 (by decide) (by decide) (by decide) l (k + 1) hs.2) (fun x hx => hq x (List.mem_cons_of_mem _ hx)) h42
      rw [runL_s z, if_neg (show ¬ ¬ nI 0 = (0 : Int32) from nn_p rfl), nI_1, e3]
      refine ⟨S3, ?_, kp_tr k2 k3 (fun _ h => h) (fun _ h => h), t3⟩
      rw [show k + 1 + (runL l T2).1 = k + ((runL l T2).1 + 1) by omega]
/-- what the model's run leaves -/
def gr2 (S A : qSt) : Prop := (∀ o, o ≠ 111 → o ≠ 114 → A o = S o) ∧ k1 [3, 16, 17, 18] S A
theorem gr2_tr {S A B : qSt} (h : gr2 S A) (h2 : gr2 A B) : gr2 S B := ⟨fun o a b => (h2.1 o a b).trans (h.1 o a b), k1_tr h.2 h2.2 (fun _ h => h) (fun _ h => h)⟩
theorem gr2_gm {S A : qSt} (h : gm S A) : gr2 S A := ⟨fun o a _ => h.1 o (by simpa using a), h.2⟩
theorem gr2_114 {S A : qSt} (h : kp [114] S A) : gr2 S A := ⟨fun o _ b => h o (by simpa using b), k1_kp h (by decide)⟩
theorem gr2_up {S A : qSt} {v : Int32} (h : gr2 S A) : gr2 S (qup A 111 3 v) := gr2_tr h ⟨fun o a _ => qup_o _ _ _ a, k1_up k1_rfl (by simp)⟩
theorem mX_gr {S A : qSt} (h : mX S L c) (g : gr2 S A) : mX A L c := by
  unfold mX
  rw [g.1 112 (by omega) (by omega), g.2 2 (by decide)]
  exact h
theorem hL_gr {S A : qSt} (h : hL S) (g : gr2 S A) : hL A := fun i hi => by
  rw [g.1 119 (by omega) (by omega)]
  exact h i hi
theorem m_r0 {S : qSt} {n g : Nat} {v : Int32} : B8_runPlan_45 n (g + 1) v (nI 0) S = some (v, S) := by
  rw [B8_runPlan_45, if_pos (show nI 0 = (0 : Int32) from rfl)]
theorem m_run {n : Nat} (ok : okX L c) (hn : 100 ≤ n) : ∀ j f S i l T x, (rdP L c j i).2 = some l → j + 1 < f → i ≤ L → mX S L c → hL S → S 111 3 = nI i → isM S 114 0 T → vT T → ∃ S2, B8_runPlan_45 n f (nI x) (nI 1) S = some (nI (x + (runL l T).1), S2) ∧ gr2 S S2 ∧ isM S2 114 0 (runL l T).2 := by
  have hLL := ok.1
  intro j
  induction j with
  | zero =>
    intro f S i l T x h
    cases h
  | succ j ih =>
    intro f S i l T x h hf hi hx hl h3 hT hv
    obtain ⟨g, rfl⟩ : ∃ g, f = g + 1 + 1 := ⟨f - 2, by omega⟩
    obtain ⟨r1, r2⟩ := rdC_ok (L := L) (c := c) hi
    obtain ⟨S5, e5, a5, g5, t5⟩ := m_rcm (n := n) ok hx hl hi h3 hn
    have z1 : ¬ nI 1 = (0 : Int32) := by decide
    have z0 : nI 0 = (0 : Int32) := rfl
    have u0 : ∀ v : Int32, v + 0 = v + nI 0 := fun _ => rfl
    rw [rdP] at h
    cases z : (rdC L c i).2 with
    | none =>
      rw [rcB_n z] at h
      cases h
    | some q =>
      obtain ⟨r3, r4⟩ := r2 q z
      rw [rcB_s z] at h
      rw [z, isQ_s] at e5
      have hT5 : isM S5 114 0 T := isM_kp hT g5.1 (by decide)
      obtain ⟨y, S6, e6, k6, hy, y1, y2⟩ := m_do hT5 hv (t5 q z) r4
      have g6 : gr2 S S6 := gr2_tr (gr2_gm g5) (gr2_114 k6)
      have a6 : S6 111 3 = nI (rdC L c i).1 := by
        rw [k6 111 (by decide)]
        exact a5
      have hx6 := mX_gr hx g6
      have hl6 := hL_gr hl g6
      rw [B8_runPlan_45, if_neg z1, e5, ob2_s, if_neg z1, e6, ob2_s]
      unfold B8_runPlan_67 B8_runPlan_68 B8_runPlan_79 B8_runPlan_96 B8_runPlan_97
      have head : ∃ l2, l = q :: l2 ∧ (L ≤ (rdC L c i).1 ∧ l2 = [] ∨ ¬ L ≤ (rdC L c i).1 ∧ c (rdC L c i).1 = 32 ∧ (rdP L c j ((rdC L c i).1 + 1)).2 = some l2) := by
        by_cases q1 : L ≤ (rdC L c i).1
        · rw [if_pos q1] at h
          cases h
          exact ⟨[], rfl, Or.inl ⟨q1, rfl⟩⟩
        · rw [if_neg q1] at h
          by_cases q2 : c (rdC L c i).1 = 32
          · rw [if_pos q2] at h
            unfold cnO at h
            cases w : (rdP L c j ((rdC L c i).1 + 1)).2 with
            | none =>
              rw [w] at h
              cases h
            | some l2 =>
              rw [w] at h
              cases h
              exact ⟨l2, rfl, Or.inr ⟨q1, q2, rfl⟩⟩
          · rw [if_neg q2] at h
            cases h
      obtain ⟨l2, rfl, hl2⟩ := head
      cases w : doC T q with
      | none =>
        obtain ⟨w1, w2⟩ := y2 w
        subst w1
        rw [runL_n w, if_pos z0, if_pos rfl, if_pos rfl]
        refine ⟨S6, ?_, g6, w2⟩
        have e : nI x + 0 = nI (x + 0) := nI_add x 0
        rw [e]
        exact m_r0
      | some T2 =>
        obtain ⟨w1, w2⟩ := y1 T2 w
        subst w1
        have hne : ¬ (1 : Int32) = 0 := by decide
        have e : nI x + 1 = nI (x + 1) := nI_1 x
        rw [runL_s w, if_neg z1, if_neg hne, if_neg hne, m_blank ok hx6 r1 a6, e]
        rcases hl2 with ⟨q1, rfl⟩ | ⟨q1, q2, h2⟩
        · rw [if_neg (show ¬ ((rdC L c i).1 < L ∧ c (rdC L c i).1 = 32) from fun v => by omega), ob2_s, if_pos z0]
          refine ⟨S6, ?_, g6, w2⟩
          have e2 : x + ((runL [] T2).1 + 1) = x + 1 := by
            rw [show (runL [] T2).1 = 0 from rfl]
          rw [e2]
          exact m_r0
        · rw [if_pos (show (rdC L c i).1 < L ∧ c (rdC L c i).1 = 32 from ⟨by omega, q2⟩), ob2_s, if_neg z1]
          have g7 := gr2_up (v := nI ((rdC L c i).1 + 1)) g6
          obtain ⟨S8, e8, g8, t8⟩ := ih (g + 1) (qup S6 111 3 (nI ((rdC L c i).1 + 1))) ((rdC L c i).1 + 1) l2 T2 (x + 1) h2 (by omega) (by omega) (mX_gr hx g7) (hL_gr hl g7) (qup_s ..) (isM_cg w2 (qup_o _ _ _ (by omega))) (doC_v hv r4 T2 w)
          refine ⟨S8, ?_, gr2_tr g7 g8, t8⟩
          rw [show x + ((runL l2 T2).1 + 1) = x + 1 + (runL l2 T2).1 by omega]
          exact e8
end QRUN
theorem RM_run {L : Nat} {c : Nat → Nat} {T T2 : Tn} {hc : Nat} {H : Nat → Tn} {F : Nat → Nat} {K : Nat → Tn} {S S2 : qSt} (h : RM S L c T hc H F K) (g : gr2 S S2) (t : isM S2 114 0 T2) : RM S2 L c T2 hc H F K ∧ kM S S2 := by
  obtain ⟨h1, h2, ⟨h3, h4⟩, h5, h6⟩ := h
  have k : ∀ o, o ≠ 111 → o ≠ 114 → S2 o = S o := g.1
  refine ⟨?_, fun o ho => k o (by omega) (by omega)⟩
  unfold RM
  rw [k 112 (by omega) (by omega), k 118 (by omega) (by omega), k 119 (by omega) (by omega), g.2 2 (by decide), g.2 8 (by decide)]
  exact ⟨h1, t, ⟨h3, fun i hi => isM_cg (h4 i hi) (k 116 (by omega) (by omega))⟩, fun j hj => ⟨(h5 j hj).1, fun hf => isM_cg ((h5 j hj).2 hf) (k 117 (by omega) (by omega))⟩, h6⟩
theorem isL_1 {x : Option (List Cm)} (h : isL x ≠ 0) : ∃ l, x = some l := by
  cases x with
  | none => exact absurd rfl h
  | some l => exact ⟨l, rfl⟩
theorem k_runPlan {S : qSt} {n : Nat} (h : Rel S) (hn : 100000000 ≤ n) : okc (CC (FL_runPlan n S) (F8_runPlan n)) := by
  obtain ⟨L, c, T, hc, H, F, K, hR, rm, ok⟩ := h
  have okx : okX L c := ⟨ok.1, ok.2.1⟩
  have hLL := ok.1
  have hv := ok.2.2.1
  obtain ⟨S1, e1, ka, s1⟩ := c_plan (n := n) okx hR.1 (by omega)
  have hR1 := RC_kp hR ka (by simp)
  have kC1 := kC_kp ka (by simp)
  obtain ⟨p1, p2⟩ := rdPl_ok (L := L) (c := c) hLL
  have hpl : ∀ S, RM S L c T hc H F K → ∃ S2, F8_readPlan n S = some (nI (isL (rdPl L c).2), S2) ∧ RM S2 L c T hc H F K ∧ kM S S2 := fun S rm => by
    obtain ⟨S2, e2, a2, g2⟩ := m_plan (n := n) okx rm.1 rm.2.2.2.2 (by omega)
    obtain ⟨f1, f2⟩ := RM_rd rm g2.1 g2.2 (by simp) (by decide) (by decide) (by simp)
    exact ⟨S2, e2, f1, f2⟩
  unfold FL_runPlan
  by_cases z : isL (rdPl L c).2 = 0
  · rw [rP_n z] at e1
    refine okc_x (k := 1) (w := 1) rm ⟨S1, ?_, hR1, kC1⟩ (fun S => by simp (disch := omega) only [if_pos, if_neg, ite_true, ite_false, not_true_eq_false, Bool.false_eq_true, not_false_eq_true, eq_self, obs, ob1, ob2, obx, opx, li_0, li_1, li_2, li_3, li_4, li_5, li_6, li_7, li_8, li_9, li_10, li_14, li_16, li_20, li_21, li_24, li_25, li_32, li_44, li_48, li_57, li_60, li_64, li_81, li_84, li_99, li_100, li_101, li_108, li_111, li_115, li_116, li_120, li_140, li_255, li_500, li_999, li_1000, li_1092, li_1176, li_10000, li_100000, li_1000000, li_N, li_M, nI_add, pk_mul, pk_sub, pk_div, pk_rem, k_mod, nI_clamp, nI_leI, nI_ltI, nI_eq, qin_nI, nI_m1, nN_lt, nN_lt2, nN_le, nN_le2, nN_eq, nN_eq2, qin_nN, Option.some.injEq, Prod.mk.injEq, Sum.inl.injEq]) (by omega) (by omega) (fun S rm => ?_) ok
    · unfold F7_runPlan
      rw [e1, ob2_s, if_neg (show ¬ nI (rdPl L c).1 = (-999 : Int32) from fun v => nN_ne (show (rdPl L c).1 < 2 ^ 31 by omega) v)]
    · obtain ⟨S2, e2, f1, f2⟩ := hpl S rm
      obtain ⟨g1, g2, g3, -⟩ := rq f1 1
      refine ⟨nI 0, qup S2 111 0 (nI 1), ?_, g1, kM_tr f2 g2, g3⟩
      unfold F8_runPlan B8_runPlan_13
      rw [e2, ob2_s, z, if_pos (show nI 0 = (0 : Int32) from rfl)]
      simp (disch := omega) only [if_pos, if_neg, ite_true, ite_false, not_true_eq_false, Bool.false_eq_true, not_false_eq_true, eq_self, obs, ob1, ob2, obx, opx, li_0, li_1, li_2, li_3, li_4, li_5, li_6, li_7, li_8, li_9, li_10, li_14, li_16, li_20, li_21, li_24, li_25, li_32, li_44, li_48, li_57, li_60, li_64, li_81, li_84, li_99, li_100, li_101, li_108, li_111, li_115, li_116, li_120, li_140, li_255, li_500, li_999, li_1000, li_1092, li_1176, li_10000, li_100000, li_1000000, li_N, li_M, nI_add, pk_mul, pk_sub, pk_div, pk_rem, k_mod, nI_clamp, nI_leI, nI_ltI, nI_eq, qin_nI, nI_m1, nN_lt, nN_lt2, nN_le, nN_le2, nN_eq, nN_eq2, qin_nN, Option.some.injEq, Prod.mk.injEq, Sum.inl.injEq, m_ref_w]
  · obtain ⟨l, hl⟩ := isL_1 z
    rw [rP_s z] at e1
    obtain ⟨q1, q2⟩ := p2 l hl
    obtain ⟨s2, s3⟩ := s1 l hl
    obtain ⟨S5, e5, t5, k5⟩ := c_cp (o := 13) (n := n) hR1.2.1 hv (by omega) (by omega) (by omega)
    have s5 := std_kp k5 (by decide) (by decide) (by decide) l 0 s2
    have s6 : S5 4 0 = nI l.length := by
      rw [k5 4 (by decide)]
      exact s3
    obtain ⟨S6, e6, k6, t6⟩ := c_run (n := n) (m := l.length) q1 l 0 n S5 T (by omega) (by omega) t5 hv s5 q2 s6
    have k56 : kp (pT 13) S1 S6 := kp_tr k5 k6 (fun _ h => h) (fun _ h => h)
    have hv2 := runL_v l T hv q2
    obtain ⟨S7, e7, r7, w7⟩ := c_acc (n := n) (RC_kp hR1 k56 (by simp)) hv ok.2.2.2.1 t6 hv2 (by omega)
    refine okc_r (r := nI (runL l T).1) (L2 := L) (c2 := c) (T2 := (runL l T).2) (hc2 := hcP hc) (H2 := hPush hc H T) (F2 := F) (K2 := K) rm ⟨S7, ?_, r7, kC_tr kC1 (kC_tr (kC_kp k56 (by simp)) w7)⟩ (fun S rm => ?_) (OKA_push ok hv2)
    · rw [Nat.zero_add] at e6
      unfold F7_runPlan
      rw [e1, ob2_s, if_pos (show nN = (-999 : Int32) from rfl), e5, ob1_s, show (0 : Int32) = nI 0 from rfl, e6, B7_runPlan_65, e7, ob1_s]
    · obtain ⟨S2, e2, f1, f2⟩ := hpl S rm
      obtain ⟨g1, g2, g3, g4⟩ := rq f1 0
      obtain ⟨S4, e4, r4, w4, z4⟩ := m_rem (n := n) g1 ok (by omega)
      have r9 : RM (qup S4 111 3 0) L c T (hcP hc) (hPush hc H T) F K := RM_q r4 (by omega) (by omega)
      have w9 : kM S4 (qup S4 111 3 0) := kM_up kM_rfl (by omega) (by omega)
      have z9 : (qup S4 111 3 0) 111 0 = nI 0 := by
        rw [qup_k _ _ _ (by omega), z4]
        exact g3
      have fin : ∃ S10, (if (qup S4 111 3 0) 111 2 ≤ 0 then B8_runPlan_44 n 0 0 (qup S4 111 3 0) else B8_runPlan_44 n 0 1 (qup S4 111 3 0)) = some (nI (runL l T).1, S10) ∧ gr2 (qup S4 111 3 0) S10 ∧ isM S10 114 0 (runL l T).2 := by
        have hx9 := r9.1.1
        rw [hx9]
        unfold rdPl at hl
        unfold B8_runPlan_44
        by_cases y : L = 0
        · rw [if_pos y] at hl
          cases hl
          rw [y, if_pos (show nI 0 ≤ (0 : Int32) by decide)]
          obtain ⟨g, rfl⟩ : ∃ g, n = g + 1 := ⟨n - 1, by omega⟩
          exact ⟨_, m_r0, ⟨fun _ _ _ => rfl, k1_rfl⟩, r9.2.1⟩
        · rw [if_neg y] at hl
          rw [if_neg (show ¬ nI L ≤ (0 : Int32) from nI_nle (by omega) (by omega))]
          obtain ⟨S10, e10, g10, t10⟩ := m_run (n := n) okx (by omega) 141 n (qup S4 111 3 0) 0 l T 0 hl (by omega) (by omega) r9.1 r9.2.2.2.2 (qup_s ..) r9.2.1 hv
          rw [Nat.zero_add] at e10
          exact ⟨S10, e10, g10, t10⟩
      obtain ⟨S10, e10, g10, t10⟩ := fin
      obtain ⟨r10, w10⟩ := RM_run r9 g10 t10
      refine ⟨S10, ?_, r10, kM_tr f2 (kM_tr g2 (kM_tr w4 (kM_tr w9 w10))), ?_⟩
      · unfold F8_runPlan B8_runPlan_13
        rw [e2, ob2_s, hl, isL_s, if_neg (show ¬ nI 1 = (0 : Int32) by decide), show (0 : Int32) = nI 0 from rfl, m_ref_0, ob2_s, if_pos rfl, e4, ob1_s, obs1]
        exact e10
      · rw [g10.2 0 (by decide)]
        exact z9
