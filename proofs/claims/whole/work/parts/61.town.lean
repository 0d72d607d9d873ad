/-! A TOWN IS READ -/
def tB (m s g : Nat) : Tn := fun i k => if i = 0 then (if k = 0 then m else if k = 2 then s else if k = 3 then g else 0) else 0
theorem tB_v {m s g : Nat} (h1 : 2 ≤ m) (h2 : m ≤ 9) (h3 : s < m) (h4 : g < m) (h5 : s ≠ g) : vT (tB m s g) := ⟨h1, h2, Nat.zero_le _, h3, h4, h5, fun r hr => absurd hr (Nat.not_lt_zero _), fun r r2 hr => absurd hr (Nat.not_lt_zero _)⟩
def rdB (x : Nat × Option Tn) (f : Nat → Tn → Nat × Option Tn) : Nat × Option Tn :=
  match x.2 with
  | none => (x.1, none)
  | some T => f x.1 T
theorem rdB_n {x : Nat × Option Tn} {f : Nat → Tn → Nat × Option Tn} (h : x.2 = none) : rdB x f = (x.1, none) := by
  unfold rdB
  rw [h]
theorem rdB_s {x : Nat × Option Tn} {f : Nat → Tn → Nat × Option Tn} {T : Tn} (h : x.2 = some T) : rdB x f = f x.1 T := by
  unfold rdB
  rw [h]
def rI (x : Nat × Option Tn) : Int32 :=
  match x.2 with
  | none => nI x.1
  | some _ => nN
theorem rI_n {x : Nat × Option Tn} (h : x.2 = none) : rI x = nI x.1 := by
  unfold rI
  rw [h]
theorem rI_s {x : Nat × Option Tn} {T : Tn} (h : x.2 = some T) : rI x = nN := by
  unfold rI
  rw [h]
def rdH (L : Nat) (c : Nat → Nat) : Nat × Option Tn :=
  if ¬ (0 < L ∧ c 0 = 84) then (0, none)
  else if ¬ (2 ≤ dg L c 1 ∧ dg L c 1 ≤ 9) then (1, none)
  else if ¬ dg L c 2 < dg L c 1 then (2, none)
  else if ¬ dg L c 3 < dg L c 1 ∨ dg L c 3 = dg L c 2 then (3, none)
  else (4, some (tB (dg L c 1) (dg L c 2) (dg L c 3)))
def rdL (L : Nat) (c : Nat → Nat) : Nat → Tn → Nat → Nat × Option Tn
  | 0, T, i => (i, some T)
  | j + 1, T, i => if L ≤ i then (i, some T) else rdB (rdS L c T i) (fun p T2 => rdL L c j T2 p)
def rdT (L : Nat) (c : Nat → Nat) : Nat × Option Tn := rdB (rdH L c) (fun p T => rdL L c 21 T p)
abbrev pX : List Nat := [3, 13, 14, 15, 16, 17]
section QTOWN
variable {L : Nat} {c : Nat → Nat}
theorem rdH_ok : (rdH L c).1 ≤ L ∧ ∀ T2, (rdH L c).2 = some T2 → vT T2 ∧ T2 0 1 = 0 ∧ T2 0 0 = dg L c 1 := by
  unfold rdH
  by_cases q1 : ¬ (0 < L ∧ c 0 = 84)
  · rw [if_pos q1]
    exact ⟨by dsimp only; omega, fun T2 h => by cases h⟩
  rw [if_neg q1]
  have q1' : 0 < L ∧ c 0 = 84 := Classical.byContradiction q1
  by_cases q2 : ¬ (2 ≤ dg L c 1 ∧ dg L c 1 ≤ 9)
  · rw [if_pos q2]
    exact ⟨by dsimp only; omega, fun T2 h => by cases h⟩
  rw [if_neg q2]
  have q2' : 2 ≤ dg L c 1 ∧ dg L c 1 ≤ 9 := Classical.byContradiction q2
  have g1 : 1 < L := dg_lt (show dg L c 1 < 10 by omega)
  by_cases q3 : ¬ dg L c 2 < dg L c 1
  · rw [if_pos q3]
    exact ⟨by dsimp only; omega, fun T2 h => by cases h⟩
  rw [if_neg q3]
  have g2 : 2 < L := dg_lt (show dg L c 2 < 10 by omega)
  by_cases q4 : ¬ dg L c 3 < dg L c 1 ∨ dg L c 3 = dg L c 2
  · rw [if_pos q4]
    exact ⟨by dsimp only; omega, fun T2 h => by cases h⟩
  rw [if_neg q4]
  have g3 : 3 < L := dg_lt (show dg L c 3 < 10 by omega)
  refine ⟨by dsimp only; omega, fun T2 h => ?_⟩
  cases h
  exact ⟨tB_v q2'.1 q2'.2 (by omega) (by omega) (by omega), rfl, rfl⟩
theorem rdL_ok : ∀ j T i, T 0 1 + j = 21 → vT T → i ≤ L → (rdL L c j T i).1 ≤ L ∧ ∀ T2, (rdL L c j T i).2 = some T2 → vT T2 := by
  intro j
  induction j with
  | zero =>
    intro T i h1 hv hi
    have := hv.2.2.1
    omega
  | succ j ih =>
    intro T i h1 hv hi
    rw [rdL]
    by_cases q : L ≤ i
    · rw [if_pos q]
      exact ⟨hi, fun T2 h => by cases h; exact hv⟩
    · rw [if_neg q]
      obtain ⟨r1, r2⟩ := rdS_ok (c := c) hv hi
      cases z : (rdS L c T i).2 with
      | none =>
        rw [rdB_n z]
        exact ⟨r1, fun T2 h => by cases h⟩
      | some T3 =>
        obtain ⟨v3, g3, -, -⟩ := r2 T3 z
        rw [rdB_s z]
        exact ih T3 _ (by omega) v3 r1
theorem rdT_ok : (rdT L c).1 ≤ L ∧ ∀ T2, (rdT L c).2 = some T2 → vT T2 := by
  obtain ⟨r1, r2⟩ := rdH_ok (L := L) (c := c)
  unfold rdT
  cases z : (rdH L c).2 with
  | none =>
    rw [rdB_n z]
    exact ⟨r1, fun T2 h => by cases h⟩
  | some T3 =>
    obtain ⟨v3, g3, -⟩ := r2 T3 z
    rw [rdB_s z]
    exact rdL_ok 21 T3 _ (by omega) v3 r1
theorem cX_kp {S S2 : qSt} {P : List Nat} (h : cX S L c) (k : kp P S S2) (h1 : 1 ∉ P) (h2 : 2 ∉ P) : cX S2 L c := by
  unfold cX
  rw [k 1 h1, k 2 h2]
  exact h
theorem mX_kp {S S2 : qSt} {P Q : List Nat} (h : mX S L c) (k : kp P S S2) (k2 : k1 Q S S2) (h1 : 112 ∉ P) (h2 : 2 ∉ Q) : mX S2 L c := by
  unfold mX
  rw [k 112 h1, k2 2 h2]
  exact h
theorem c_rl {n : Nat} (ok : okX L c) (hn : 100 ≤ n) : ∀ j s f S T i, s + j = 21 → T 0 1 = s → j < f → cX S L c → isT S 13 T → vT T → i ≤ L → S 3 0 = nI i → ∃ S2, B6_errorIn_21 n 13 f (nI s) S = some (rI (rdL L c j T i), S2) ∧ kp pX S S2 ∧ ∀ T2, (rdL L c j T i).2 = some T2 → isT S2 13 T2 := by
  have hL := ok.1
  intro j
  induction j with
  | zero =>
    intro s f S T i h1 h2 hf hx hT hv hi h3
    have := hv.2.2.1
    omega
  | succ j ih =>
    intro s f S T i h1 h2 hf hx hT hv hi h3
    obtain ⟨g, rfl, hg⟩ := fuel_s hf
    have w := hx.1
    rw [B6_errorIn_21, rdL]
    by_cases q : L ≤ i
    · rw [if_pos q]
      refine ⟨S, ?_, kp_rfl, fun T2 h => by cases h; exact hT⟩
      have e : rI (i, some T) = nN := rfl
      simp (disch := omega) only [if_pos, if_neg, ite_true, ite_false, not_true_eq_false, Bool.false_eq_true, not_false_eq_true, eq_self, obs, ob1, ob2, obx, opx, li_0, li_1, li_2, li_3, li_4, li_5, li_6, li_7, li_8, li_9, li_10, li_14, li_16, li_20, li_21, li_24, li_25, li_32, li_44, li_48, li_57, li_60, li_64, li_81, li_84, li_99, li_100, li_101, li_108, li_111, li_115, li_116, li_120, li_140, li_255, li_500, li_999, li_1000, li_1092, li_1176, li_10000, li_100000, li_1000000, li_N, li_M, nI_add, pk_mul, pk_sub, pk_div, pk_rem, k_mod, nI_clamp, nI_leI, nI_ltI, nI_eq, qin_nI, nI_m1, nN_lt, nN_lt2, nN_le, nN_le2, nN_eq, nN_eq2, qin_nN, Option.some.injEq, Prod.mk.injEq, Sum.inl.injEq, w, h3, e]
    · rw [if_neg q]
      obtain ⟨r1, r2⟩ := rdS_ok (c := c) hv hi
      obtain ⟨S3, e3, a3, k3, t3⟩ := c_rds (n := n) hx ok hT hv hi h3 hn
      cases z : (rdS L c T i).2 with
      | none =>
        rw [rdB_n z]
        refine ⟨S3, ?_, k3, fun T2 h => by cases h⟩
        have e : rI ((rdS L c T i).1, none) = nI (rdS L c T i).1 := rfl
        rw [z, isO_n] at e3
        unfold B6_errorIn_47
        simp (disch := omega) only [if_pos, if_neg, ite_true, ite_false, not_true_eq_false, Bool.false_eq_true, not_false_eq_true, eq_self, obs, ob1, ob2, obx, opx, li_0, li_1, li_2, li_3, li_4, li_5, li_6, li_7, li_8, li_9, li_10, li_14, li_16, li_20, li_21, li_24, li_25, li_32, li_44, li_48, li_57, li_60, li_64, li_81, li_84, li_99, li_100, li_101, li_108, li_111, li_115, li_116, li_120, li_140, li_255, li_500, li_999, li_1000, li_1092, li_1176, li_10000, li_100000, li_1000000, li_N, li_M, nI_add, pk_mul, pk_sub, pk_div, pk_rem, k_mod, nI_clamp, nI_leI, nI_ltI, nI_eq, qin_nI, nI_m1, nN_lt, nN_lt2, nN_le, nN_le2, nN_eq, nN_eq2, qin_nN, Option.some.injEq, Prod.mk.injEq, Sum.inl.injEq, w, h3, e, e3, a3]
      | some T3 =>
        obtain ⟨v3, g3, -, -⟩ := r2 T3 z
        rw [rdB_s z]
        rw [z, isO_s] at e3
        obtain ⟨S4, e4, k4, t4⟩ := ih (s + 1) g S3 T3 _ (by omega) (by omega) (by omega) (cX_kp hx k3 (by decide) (by decide)) (t3 T3 z) v3 r1 a3
        refine ⟨S4, ?_, kp_tr k3 k4 (fun _ h => h) (fun _ h => h), t4⟩
        simp (disch := omega) only [if_pos, if_neg, ite_true, ite_false, not_true_eq_false, Bool.false_eq_true, not_false_eq_true, eq_self, obs, ob1, ob2, obx, opx, li_0, li_1, li_2, li_3, li_4, li_5, li_6, li_7, li_8, li_9, li_10, li_14, li_16, li_20, li_21, li_24, li_25, li_32, li_44, li_48, li_57, li_60, li_64, li_81, li_84, li_99, li_100, li_101, li_108, li_111, li_115, li_116, li_120, li_140, li_255, li_500, li_999, li_1000, li_1092, li_1176, li_10000, li_100000, li_1000000, li_N, li_M, nI_add, pk_mul, pk_sub, pk_div, pk_rem, k_mod, nI_clamp, nI_leI, nI_ltI, nI_eq, qin_nI, nI_m1, nN_lt, nN_lt2, nN_le, nN_le2, nN_eq, nN_eq2, qin_nN, Option.some.injEq, Prod.mk.injEq, Sum.inl.injEq, w, h3, e3]
        exact e4
theorem c_rh {S : qSt} (hx : cX S L c) (ok : okX L c) (h3 : S 3 0 = nI 0) : ∃ S2, F6_readHead 13 S = some (nI (isO (rdH L c).2), S2) ∧ S2 3 0 = nI (rdH L c).1 ∧ kp pX S S2 ∧ ∀ T2, (rdH L c).2 = some T2 → isT S2 13 T2 := by
  have hx1 : ∀ v, cX (qup S 3 0 v) L c := fun v => cX_kp (P := [3]) hx (kp_up kp_rfl (by simp)) (by decide) (by decide)
  have hd : ∀ v j, j < 1000 → F4_digitAt (nI j) (qup S 3 0 v) = some (dgI L c j) := fun v j hj => c_dig (hx1 v) ok hj
  have hk : ∀ v, kp pX S (qup S 3 0 v) := fun v => kp_up kp_rfl (by simp)
  have no : ∀ (T2 : Tn), (none : Option Tn) = some T2 → ∀ S2 : qSt, isT S2 13 T2 := fun T2 h => by cases h
  have d1 := hd (nI 1) 1 (by omega)
  have d2 := hd (nI 2) 2 (by omega)
  have d3 := hd (nI 3) 3 (by omega)
  have b1 : dg L c 1 ≤ 10 := dg_le
  have b2 : dg L c 2 ≤ 10 := dg_le
  have b3 : dg L c 3 ≤ 10 := dg_le
  unfold F6_readHead rdH
  rw [h3, c_code hx ok (by omega)]
  by_cases q1 : 0 < L ∧ c 0 = 84
  case neg =>
    rw [if_pos q1]
    refine ⟨S, ?_, h3, kp_rfl, fun T2 h => no T2 h _⟩
    have e := chI_ne ok (show 84 < 256 by omega) q1
    simp (disch := omega) only [if_pos, if_neg, ite_true, ite_false, not_true_eq_false, Bool.false_eq_true, not_false_eq_true, eq_self, obs, ob1, ob2, obx, opx, li_0, li_1, li_2, li_3, li_4, li_5, li_6, li_7, li_8, li_9, li_10, li_14, li_16, li_20, li_21, li_24, li_25, li_32, li_44, li_48, li_57, li_60, li_64, li_81, li_84, li_99, li_100, li_101, li_108, li_111, li_115, li_116, li_120, li_140, li_255, li_500, li_999, li_1000, li_1092, li_1176, li_10000, li_100000, li_1000000, li_N, li_M, nI_add, pk_mul, pk_sub, pk_div, pk_rem, k_mod, nI_clamp, nI_leI, nI_ltI, nI_eq, qin_nI, nI_m1, nN_lt, nN_lt2, nN_le, nN_le2, nN_eq, nN_eq2, qin_nN, Option.some.injEq, Prod.mk.injEq, Sum.inl.injEq, e, isO_n]
  have e1 := chI_y q1
  rw [if_neg (fun v => v q1)]
  by_cases q2 : 2 ≤ dg L c 1 ∧ dg L c 1 ≤ 9
  case neg =>
    rw [if_pos q2]
    refine ⟨qup S 3 0 (nI 1), ?_, qup_s .., hk _, fun T2 h => no T2 h _⟩
    by_cases z : dg L c 1 < 10
    · have z2 := dgI_y z
      simp (disch := omega) only [if_pos, if_neg, ite_true, ite_false, not_true_eq_false, Bool.false_eq_true, not_false_eq_true, eq_self, obs, ob1, ob2, obx, opx, li_0, li_1, li_2, li_3, li_4, li_5, li_6, li_7, li_8, li_9, li_10, li_14, li_16, li_20, li_21, li_24, li_25, li_32, li_44, li_48, li_57, li_60, li_64, li_81, li_84, li_99, li_100, li_101, li_108, li_111, li_115, li_116, li_120, li_140, li_255, li_500, li_999, li_1000, li_1092, li_1176, li_10000, li_100000, li_1000000, li_N, li_M, nI_add, pk_mul, pk_sub, pk_div, pk_rem, k_mod, nI_clamp, nI_leI, nI_ltI, nI_eq, qin_nI, nI_m1, nN_lt, nN_lt2, nN_le, nN_le2, nN_eq, nN_eq2, qin_nN, Option.some.injEq, Prod.mk.injEq, Sum.inl.injEq, e1, isO_n, qup_s, d1, z2, Nat.zero_add]
    · have z2 := dgI_n z
      simp (disch := omega) only [if_pos, if_neg, ite_true, ite_false, not_true_eq_false, Bool.false_eq_true, not_false_eq_true, eq_self, obs, ob1, ob2, obx, opx, li_0, li_1, li_2, li_3, li_4, li_5, li_6, li_7, li_8, li_9, li_10, li_14, li_16, li_20, li_21, li_24, li_25, li_32, li_44, li_48, li_57, li_60, li_64, li_81, li_84, li_99, li_100, li_101, li_108, li_111, li_115, li_116, li_120, li_140, li_255, li_500, li_999, li_1000, li_1092, li_1176, li_10000, li_100000, li_1000000, li_N, li_M, nI_add, pk_mul, pk_sub, pk_div, pk_rem, k_mod, nI_clamp, nI_leI, nI_ltI, nI_eq, qin_nI, nI_m1, nN_lt, nN_lt2, nN_le, nN_le2, nN_eq, nN_eq2, qin_nN, Option.some.injEq, Prod.mk.injEq, Sum.inl.injEq, e1, isO_n, qup_s, d1, z2, Nat.zero_add]
  have z1 := dgI_y (show dg L c 1 < 10 by omega)
  rw [if_neg (fun v => v q2)]
  by_cases q3 : dg L c 2 < dg L c 1
  case neg =>
    rw [if_pos q3]
    refine ⟨qup S 3 0 (nI 2), ?_, qup_s .., hk _, fun T2 h => no T2 h _⟩
    by_cases z : dg L c 2 < 10
    · have z2 := dgI_y z
      simp (disch := omega) only [if_pos, if_neg, ite_true, ite_false, not_true_eq_false, Bool.false_eq_true, not_false_eq_true, eq_self, obs, ob1, ob2, obx, opx, li_0, li_1, li_2, li_3, li_4, li_5, li_6, li_7, li_8, li_9, li_10, li_14, li_16, li_20, li_21, li_24, li_25, li_32, li_44, li_48, li_57, li_60, li_64, li_81, li_84, li_99, li_100, li_101, li_108, li_111, li_115, li_116, li_120, li_140, li_255, li_500, li_999, li_1000, li_1092, li_1176, li_10000, li_100000, li_1000000, li_N, li_M, nI_add, pk_mul, pk_sub, pk_div, pk_rem, k_mod, nI_clamp, nI_leI, nI_ltI, nI_eq, qin_nI, nI_m1, nN_lt, nN_lt2, nN_le, nN_le2, nN_eq, nN_eq2, qin_nN, Option.some.injEq, Prod.mk.injEq, Sum.inl.injEq, e1, isO_n, qup_s, d1, z1, d2, z2, Nat.zero_add, qup_qup]
    · have z2 := dgI_n z
      simp (disch := omega) only [if_pos, if_neg, ite_true, ite_false, not_true_eq_false, Bool.false_eq_true, not_false_eq_true, eq_self, obs, ob1, ob2, obx, opx, li_0, li_1, li_2, li_3, li_4, li_5, li_6, li_7, li_8, li_9, li_10, li_14, li_16, li_20, li_21, li_24, li_25, li_32, li_44, li_48, li_57, li_60, li_64, li_81, li_84, li_99, li_100, li_101, li_108, li_111, li_115, li_116, li_120, li_140, li_255, li_500, li_999, li_1000, li_1092, li_1176, li_10000, li_100000, li_1000000, li_N, li_M, nI_add, pk_mul, pk_sub, pk_div, pk_rem, k_mod, nI_clamp, nI_leI, nI_ltI, nI_eq, qin_nI, nI_m1, nN_lt, nN_lt2, nN_le, nN_le2, nN_eq, nN_eq2, qin_nN, Option.some.injEq, Prod.mk.injEq, Sum.inl.injEq, e1, isO_n, qup_s, d1, z1, d2, z2, Nat.zero_add, qup_qup]
  have z2 := dgI_y (show dg L c 2 < 10 by omega)
  rw [if_neg (fun v => v q3)]
  by_cases q4 : ¬ dg L c 3 < dg L c 1 ∨ dg L c 3 = dg L c 2
  · rw [if_pos q4]
    refine ⟨qup S 3 0 (nI 3), ?_, qup_s .., hk _, fun T2 h => no T2 h _⟩
    by_cases z : dg L c 3 < 10
    · have z3 := dgI_y z
      by_cases w : dg L c 3 < dg L c 1
      · have w2 : dg L c 3 = dg L c 2 := q4.resolve_left (fun v => v w)
        rw [w2] at z3
        simp (disch := omega) only [if_pos, if_neg, ite_true, ite_false, not_true_eq_false, Bool.false_eq_true, not_false_eq_true, eq_self, obs, ob1, ob2, obx, opx, li_0, li_1, li_2, li_3, li_4, li_5, li_6, li_7, li_8, li_9, li_10, li_14, li_16, li_20, li_21, li_24, li_25, li_32, li_44, li_48, li_57, li_60, li_64, li_81, li_84, li_99, li_100, li_101, li_108, li_111, li_115, li_116, li_120, li_140, li_255, li_500, li_999, li_1000, li_1092, li_1176, li_10000, li_100000, li_1000000, li_N, li_M, nI_add, pk_mul, pk_sub, pk_div, pk_rem, k_mod, nI_clamp, nI_leI, nI_ltI, nI_eq, qin_nI, nI_m1, nN_lt, nN_lt2, nN_le, nN_le2, nN_eq, nN_eq2, qin_nN, Option.some.injEq, Prod.mk.injEq, Sum.inl.injEq, e1, isO_n, qup_s, d1, z1, d2, z2, d3, z3, Nat.zero_add, qup_qup]
      · simp (disch := omega) only [if_pos, if_neg, ite_true, ite_false, not_true_eq_false, Bool.false_eq_true, not_false_eq_true, eq_self, obs, ob1, ob2, obx, opx, li_0, li_1, li_2, li_3, li_4, li_5, li_6, li_7, li_8, li_9, li_10, li_14, li_16, li_20, li_21, li_24, li_25, li_32, li_44, li_48, li_57, li_60, li_64, li_81, li_84, li_99, li_100, li_101, li_108, li_111, li_115, li_116, li_120, li_140, li_255, li_500, li_999, li_1000, li_1092, li_1176, li_10000, li_100000, li_1000000, li_N, li_M, nI_add, pk_mul, pk_sub, pk_div, pk_rem, k_mod, nI_clamp, nI_leI, nI_ltI, nI_eq, qin_nI, nI_m1, nN_lt, nN_lt2, nN_le, nN_le2, nN_eq, nN_eq2, qin_nN, Option.some.injEq, Prod.mk.injEq, Sum.inl.injEq, e1, isO_n, qup_s, d1, z1, d2, z2, d3, z3, Nat.zero_add, qup_qup]
    · have z3 := dgI_n z
      simp (disch := omega) only [if_pos, if_neg, ite_true, ite_false, not_true_eq_false, Bool.false_eq_true, not_false_eq_true, eq_self, obs, ob1, ob2, obx, opx, li_0, li_1, li_2, li_3, li_4, li_5, li_6, li_7, li_8, li_9, li_10, li_14, li_16, li_20, li_21, li_24, li_25, li_32, li_44, li_48, li_57, li_60, li_64, li_81, li_84, li_99, li_100, li_101, li_108, li_111, li_115, li_116, li_120, li_140, li_255, li_500, li_999, li_1000, li_1092, li_1176, li_10000, li_100000, li_1000000, li_N, li_M, nI_add, pk_mul, pk_sub, pk_div, pk_rem, k_mod, nI_clamp, nI_leI, nI_ltI, nI_eq, qin_nI, nI_m1, nN_lt, nN_lt2, nN_le, nN_le2, nN_eq, nN_eq2, qin_nN, Option.some.injEq, Prod.mk.injEq, Sum.inl.injEq, e1, isO_n, qup_s, d1, z1, d2, z2, d3, z3, Nat.zero_add, qup_qup]
  rw [if_neg q4]
  have q5 : dg L c 3 < dg L c 1 := Classical.byContradiction fun w => q4 (Or.inl w)
  have q6 : ¬ dg L c 3 = dg L c 2 := fun w => q4 (Or.inr w)
  have z3 := dgI_y (show dg L c 3 < 10 by omega)
  obtain ⟨S5, e5, g0, g1, g2, g3, k5⟩ := c_bw (S := qup S 3 0 (nI 4)) (o := 13) (c := dg L c 1) (a := dg L c 2) (b := dg L c 3)
  refine ⟨S5, ?_, ?_, kp_tr (hk _) k5 (fun _ h => h) (by simp), fun T2 h => ?_⟩
  · simp (disch := omega) only [if_pos, if_neg, ite_true, ite_false, not_true_eq_false, Bool.false_eq_true, not_false_eq_true, eq_self, obs, ob1, ob2, obx, opx, li_0, li_1, li_2, li_3, li_4, li_5, li_6, li_7, li_8, li_9, li_10, li_14, li_16, li_20, li_21, li_24, li_25, li_32, li_44, li_48, li_57, li_60, li_64, li_81, li_84, li_99, li_100, li_101, li_108, li_111, li_115, li_116, li_120, li_140, li_255, li_500, li_999, li_1000, li_1092, li_1176, li_10000, li_100000, li_1000000, li_N, li_M, nI_add, pk_mul, pk_sub, pk_div, pk_rem, k_mod, nI_clamp, nI_leI, nI_ltI, nI_eq, qin_nI, nI_m1, nN_lt, nN_lt2, nN_le, nN_le2, nN_eq, nN_eq2, qin_nN, Option.some.injEq, Prod.mk.injEq, Sum.inl.injEq, e1, isO_s, qup_s, d1, z1, d2, z2, d3, z3, Nat.zero_add, qup_qup, e5]
  · rw [k5 3 (by decide)]
    exact qup_s ..
  · cases h
    exact ⟨g0, g1, g2, g3, fun r hr => absurd hr (Nat.not_lt_zero _)⟩
theorem c_rdt {S : qSt} {n : Nat} (hx : cX S L c) (ok : okX L c) (hn : 100 ≤ n) : ∃ S2, F6_errorIn n 13 S = some (rI (rdT L c), S2) ∧ kp pX S S2 ∧ ∀ T2, (rdT L c).2 = some T2 → isT S2 13 T2 := by
  have k0 : kp pX S (qup S 3 0 (nI 0)) := kp_up kp_rfl (by simp)
  obtain ⟨S3, e3, a3, k3, t3⟩ := c_rh (cX_kp hx k0 (by decide) (by decide)) ok (qup_s ..)
  have k03 : kp pX S S3 := kp_tr k0 k3 (fun _ h => h) (fun _ h => h)
  obtain ⟨r1, r2⟩ := rdH_ok (L := L) (c := c)
  unfold rdT
  cases z : (rdH L c).2 with
  | none =>
    rw [z, isO_n] at e3
    rw [rdB_n z]
    refine ⟨S3, ?_, k03, fun T2 h => by cases h⟩
    have e : rI ((rdH L c).1, none) = nI (rdH L c).1 := rfl
    unfold F6_errorIn
    simp (disch := omega) only [if_pos, if_neg, ite_true, ite_false, not_true_eq_false, Bool.false_eq_true, not_false_eq_true, eq_self, obs, ob1, ob2, obx, opx, li_0, li_1, li_2, li_3, li_4, li_5, li_6, li_7, li_8, li_9, li_10, li_14, li_16, li_20, li_21, li_24, li_25, li_32, li_44, li_48, li_57, li_60, li_64, li_81, li_84, li_99, li_100, li_101, li_108, li_111, li_115, li_116, li_120, li_140, li_255, li_500, li_999, li_1000, li_1092, li_1176, li_10000, li_100000, li_1000000, li_N, li_M, nI_add, pk_mul, pk_sub, pk_div, pk_rem, k_mod, nI_clamp, nI_leI, nI_ltI, nI_eq, qin_nI, nI_m1, nN_lt, nN_lt2, nN_le, nN_le2, nN_eq, nN_eq2, qin_nN, Option.some.injEq, Prod.mk.injEq, Sum.inl.injEq, e3, e, a3]
  | some T3 =>
    obtain ⟨v3, g3, -⟩ := r2 T3 z
    rw [z, isO_s] at e3
    rw [rdB_s z]
    obtain ⟨S4, e4, k4, t4⟩ := c_rl (n := n) ok hn 21 0 n S3 T3 _ (by omega) g3 (by omega) (cX_kp hx k03 (by decide) (by decide)) (t3 T3 z) v3 r1 a3
    refine ⟨S4, ?_, kp_tr k03 k4 (fun _ h => h) (fun _ h => h), t4⟩
    unfold F6_errorIn
    simp (disch := omega) only [if_pos, if_neg, ite_true, ite_false, not_true_eq_false, Bool.false_eq_true, not_false_eq_true, eq_self, obs, ob1, ob2, obx, opx, li_0, li_1, li_2, li_3, li_4, li_5, li_6, li_7, li_8, li_9, li_10, li_14, li_16, li_20, li_21, li_24, li_25, li_32, li_44, li_48, li_57, li_60, li_64, li_81, li_84, li_99, li_100, li_101, li_108, li_111, li_115, li_116, li_120, li_140, li_255, li_500, li_999, li_1000, li_1092, li_1176, li_10000, li_100000, li_1000000, li_N, li_M, nI_add, pk_mul, pk_sub, pk_div, pk_rem, k_mod, nI_clamp, nI_leI, nI_ltI, nI_eq, qin_nI, nI_m1, nN_lt, nN_lt2, nN_le, nN_le2, nN_eq, nN_eq2, qin_nN, Option.some.injEq, Prod.mk.injEq, Sum.inl.injEq, e3]
    exact e4
end QTOWN
