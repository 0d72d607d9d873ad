/-! THE BEST WAY -/
def cN (e : Gr) (D : Nat → Nat) (x y : Nat) : Prop := e x y ≠ 0 ∧ 100 * e x y + 1 + D y = D x
def isNx (e : Gr) (D : Nat → Nat) (x y : Nat) : Prop := cN e D x y ∧ ∀ z, z < y → ¬ cN e D x z
def isWay (e : Gr) (D : Nat → Nat) (st go : Nat) (p : Nat → Nat) (m : Nat) : Prop := p 0 = st ∧ p m = go ∧ ∀ i, i < m → p i ≠ go ∧ isNx e D (p i) (p (i + 1))
def isBest (e : Gr) (D : Nat → Nat) (st go : Nat) (p : Nat → Nat) (k : Nat) : Prop := (D st = gU ∧ k = 0) ∨ (D st ≠ gU ∧ ∃ m, k = m + 1 ∧ isWay e D st go p m)
theorem way_ex {e : Gr} {D : Nat → Nat} {go : Nat} (he : gOK e) (hD : gD 100 e go D) : ∀ v c, D c = v → c < 9 → D c ≠ gU → ∃ p m, isWay e D c go p m := by
  intro v
  induction v using Nat.strongRecOn with
  | ind v ih =>
    intro c hv hc hU
    by_cases hcg : c = go
    · exact ⟨fun _ => c, 0, rfl, hcg, fun i hi => absurd hi (by omega)⟩
    · obtain ⟨b, hb, hDb⟩ := gD_succ hD hc hU hcg
      obtain ⟨y, hy, hyl⟩ := pk_least (fun y => cN e D c y) ⟨b, hb, hDb.symm⟩
      have hy9 := (he.2.2.2 c y hy.1).2
      have hyD := hy.2
      have hcU := hD.1.2.1 c hc
      obtain ⟨p, m, h1, h2, h3⟩ := ih (D y) (by omega) y rfl hy9 (by omega)
      refine ⟨fun i => if i = 0 then c else p (i - 1), m + 1, rfl, ?_, fun i hi => ?_⟩
      · dsimp only
        rw [if_neg (by omega), Nat.add_sub_cancel]
        exact h2
      · by_cases q : i = 0
        · subst q
          dsimp only
          rw [if_pos rfl, if_neg (by omega)]
          refine ⟨hcg, ?_⟩
          show isNx e D c (p 0)
          rw [h1]
          exact ⟨hy, hyl⟩
        · dsimp only
          rw [if_neg q, if_neg (by omega)]
          have := h3 (i - 1) (by omega)
          rw [show i - 1 + 1 = i by omega] at this
          exact this
theorem best_ex {e : Gr} {D : Nat → Nat} {st go : Nat} (he : gOK e) (hD : gD 100 e go D) (hs : st < 9) : ∃ p k, isBest e D st go p k := by
  by_cases h : D st = gU
  · exact ⟨fun _ => 0, 0, Or.inl ⟨h, rfl⟩⟩
  · obtain ⟨p, m, hp⟩ := way_ex he hD _ st rfl hs h
    exact ⟨p, m + 1, Or.inr ⟨h, m, rfl, hp⟩⟩
theorem way_9 {e : Gr} {D : Nat → Nat} {st go m : Nat} {p : Nat → Nat} (he : gOK e) (hs : st < 9) (h : isWay e D st go p m) : ∀ i, i ≤ m → p i < 9 := by
  intro i hi
  cases i with
  | zero =>
    rw [h.1]
    exact hs
  | succ i => exact (he.2.2.2 _ _ (h.2.2 i (by omega)).2.1.1).2
theorem way_U {e : Gr} {D : Nat → Nat} {st go m : Nat} {p : Nat → Nat} (hD : gD 100 e go D) (hs : st < 9) (hU : D st ≠ gU) (he : gOK e) (h : isWay e D st go p m) : ∀ i, i ≤ m → D (p i) ≠ gU := by
  intro i
  induction i with
  | zero =>
    intro _
    rw [h.1]
    exact hU
  | succ i ih =>
    intro hi
    have h1 := ih (by omega)
    have h2 := (h.2.2 i (by omega)).2.1.2
    have h3 := hD.1.2.1 (p i) (way_9 he hs h i (by omega))
    omega
theorem way_mod {e : Gr} {D : Nat → Nat} {st go m : Nat} {p : Nat → Nat} (hD : gD 100 e go D) (hs : st < 9) (hU : D st ≠ gU) (he : gOK e) (h : isWay e D st go p m) : ∀ j, j ≤ m → D (p (m - j)) % 100 = j := by
  intro j
  induction j with
  | zero =>
    intro _
    rw [Nat.sub_zero, h.2.1, hD.1.1]
  | succ j ih =>
    intro hj
    have h1 := ih (by omega)
    have h2 := (h.2.2 (m - (j + 1)) (by omega)).2.1.2
    rw [show m - (j + 1) + 1 = m - j by omega] at h2
    have h3 := gD_fin he hD (way_9 he hs h (m - j) (by omega)) (way_U hD hs hU he h (m - j) (by omega))
    omega
theorem way_m {e : Gr} {D : Nat → Nat} {st go m : Nat} {p : Nat → Nat} (hD : gD 100 e go D) (hs : st < 9) (hU : D st ≠ gU) (he : gOK e) (h : isWay e D st go p m) : m ≤ 8 := by
  have h1 := way_mod hD hs hU he h m (Nat.le_refl _)
  rw [Nat.sub_self, h.1] at h1
  have := gD_fin he hD hs hU
  omega
theorem way_inj {e : Gr} {D : Nat → Nat} {st go m : Nat} {p : Nat → Nat} (hD : gD 100 e go D) (hs : st < 9) (hU : D st ≠ gU) (he : gOK e) (h : isWay e D st go p m) {i j : Nat} (hi : i ≤ m) (hj : j ≤ m) (hij : p i = p j) : i = j := by
  have h1 := way_mod hD hs hU he h (m - i) (by omega)
  have h2 := way_mod hD hs hU he h (m - j) (by omega)
  rw [show m - (m - i) = i by omega] at h1
  rw [show m - (m - j) = j by omega] at h2
  rw [hij] at h1
  omega
/-- facts of a best way that both programs use -/
theorem best_f {e : Gr} {D : Nat → Nat} {st go k : Nat} {p : Nat → Nat} (hD : gD 100 e go D) (hs : st < 9) (he : gOK e) (h : isBest e D st go p k) : k ≤ 9 ∧ (∀ i, i < k → p i < 9) ∧ ∀ i j, i < k → j < k → p i = p j → i = j := by
  rcases h with ⟨_, rfl⟩ | ⟨hU, m, rfl, hw⟩
  · exact ⟨by omega, fun i hi => by omega, fun i j hi => by omega⟩
  · have := way_m hD hs hU he hw
    exact ⟨by omega, fun i hi => way_9 he hs hw i (by omega), fun i j hi hj => way_inj hD hs hU he hw (by omega) (by omega)⟩
/-- a candidate among the streets -/
def cS (T : Tn) (W : Nat → Nat) (x i : Nat) : Prop := oN T i x = true ∧ W (oT T i x) + (T 3 i * 16 + 1) = W x
theorem oN_jn {T : Tn} {i x : Nat} (h : oN T i x = true) : T 4 i = 0 ∧ jn T i x (oT T i x) := by
  unfold oN at h
  unfold oT jn
  simp only [decide_eq_true_eq] at h
  refine ⟨h.1, ?_⟩
  split <;> omega
theorem c_nb_loop {S : qSt} {o a k n x : Nat} {T : Tn} {W : Nat → Nat} (hT : isT S a T) (hv : vK k T) (hk : k ≤ 21) (hW : isW S (o + 1) W) (hWU : ∀ c, c < 9 → W c ≤ gU) (hx : x < 9) : ∀ j s f v, s + j = T 0 1 → j < f → ((v = nN ∧ ∀ i, i < s → ¬ cS T W x i) ∨ ∃ y, y < 9 ∧ v = nI y ∧ (∃ i, i < s ∧ cS T W x i ∧ oT T i x = y) ∧ ∀ i, i < s → cS T W x i → y ≤ oT T i x) → ∃ v2, B2_nextBehind_7 n o a f (nI x) v (nI s) S = some v2 ∧ ((v2 = nN ∧ ∀ i, i < T 0 1 → ¬ cS T W x i) ∨ ∃ y, y < 9 ∧ v2 = nI y ∧ (∃ i, i < T 0 1 ∧ cS T W x i ∧ oT T i x = y) ∧ ∀ i, i < T 0 1 → cS T W x i → y ≤ oT T i x) := by
  have hn := hv.2.2.1
  have h9 := hv.2.1
  have hU : gU = 1000000 := rfl
  intro j
  induction j with
  | zero =>
    intro s f v hs hf hi
    obtain ⟨g, rfl, hg⟩ := fuel_s hf
    refine ⟨v, ?_, ?_⟩
    · rw [B2_nextBehind_7]
      simp (disch := omega) only [if_pos, if_neg, ite_true, ite_false, not_true_eq_false, Bool.false_eq_true, not_false_eq_true, eq_self, obs, ob1, ob2, obx, opx, li_0, li_1, li_2, li_3, li_4, li_5, li_6, li_7, li_8, li_9, li_10, li_14, li_16, li_20, li_21, li_24, li_25, li_32, li_44, li_48, li_57, li_60, li_64, li_81, li_84, li_99, li_100, li_101, li_108, li_111, li_115, li_116, li_120, li_140, li_255, li_500, li_999, li_1000, li_1092, li_1176, li_10000, li_100000, li_1000000, li_N, li_M, nI_add, pk_mul, pk_sub, pk_div, pk_rem, k_mod, nI_clamp, nI_leI, nI_ltI, nI_eq, qin_nI, nI_m1, nN_lt, nN_lt2, nN_le, nN_le2, nN_eq, nN_eq2, qin_nN, Option.some.injEq, Prod.mk.injEq, Sum.inl.injEq, hT.2.1]
    · rw [show T 0 1 = s by omega]
      exact hi
  | succ j ih =>
    intro s f v hs hf hi
    obtain ⟨g, rfl, hg⟩ := fuel_s hf
    obtain ⟨t1, t2, t3, t4⟩ := hT.2.2.2.2 s (by omega)
    obtain ⟨v1, v2, v3, v4, v5⟩ := hv.2.2.2.2.2.2.1 s (by omega)
    have ext : ∀ P : Nat → Prop, (∀ i, i < s → P i) → P s → ∀ i, i < s + 1 → P i := fun P h1 h2 i h3 => by
      by_cases q : i = s
      · rw [q]
        exact h2
      · exact h1 i (by omega)
    have skip : ¬ cS T W x s → ((v = nN ∧ ∀ i, i < s + 1 → ¬ cS T W x i) ∨ ∃ y, y < 9 ∧ v = nI y ∧ (∃ i, i < s + 1 ∧ cS T W x i ∧ oT T i x = y) ∧ ∀ i, i < s + 1 → cS T W x i → y ≤ oT T i x) := fun h => by
      rcases hi with ⟨h1, h2⟩ | ⟨y, h1, h2, ⟨i, h3, h4, h5⟩, h6⟩
      · exact Or.inl ⟨h1, ext _ h2 h⟩
      · exact Or.inr ⟨y, h1, h2, ⟨i, by omega, h4, h5⟩, ext _ h6 (fun z => absurd z h)⟩
    by_cases q : oN T s x = true
    · have hot : oT T s x < 9 := by
        unfold oT
        split <;> omega
      have w1 := hW (oT T s x) hot
      have w2 := hW x hx
      have u1 := hWU (oT T s x) hot
      have u2 := hWU x hx
      have rt : F5_reachedThrough a (nI s) (nI x) S = some (nI (oT T s x)) := by rw [c_rt hT hv hk (by omega) hx, if_pos q]
      by_cases c : W (oT T s x) + (T 3 s * 16 + 1) = W x
      · have hc : cS T W x s := ⟨q, c⟩
        rcases hi with ⟨h1, h2⟩ | ⟨y, h1, h2, ⟨i, h3, h4, h5⟩, h6⟩
        · obtain ⟨r, e1, e2⟩ := ih (s + 1) g (nI (oT T s x)) (by omega) (by omega) (Or.inr ⟨oT T s x, hot, rfl, ⟨s, by omega, hc, rfl⟩, ext _ (fun i hi hci => absurd hci (h2 i hi)) (fun _ => Nat.le_refl _)⟩)
          refine ⟨r, ?_, e2⟩
          subst h1
          rw [B2_nextBehind_7]
          simp (disch := omega) only [if_pos, if_neg, ite_true, ite_false, not_true_eq_false, Bool.false_eq_true, not_false_eq_true, eq_self, obs, ob1, ob2, obx, opx, li_0, li_1, li_2, li_3, li_4, li_5, li_6, li_7, li_8, li_9, li_10, li_14, li_16, li_20, li_21, li_24, li_25, li_32, li_44, li_48, li_57, li_60, li_64, li_81, li_84, li_99, li_100, li_101, li_108, li_111, li_115, li_116, li_120, li_140, li_255, li_500, li_999, li_1000, li_1092, li_1176, li_10000, li_100000, li_1000000, li_N, li_M, nI_add, pk_mul, pk_sub, pk_div, pk_rem, k_mod, nI_clamp, nI_leI, nI_ltI, nI_eq, qin_nI, nI_m1, nN_lt, nN_lt2, nN_le, nN_le2, nN_eq, nN_eq2, qin_nN, Option.some.injEq, Prod.mk.injEq, Sum.inl.injEq, hT.2.1, rt, F2_weightOf, t3, w1, w2, c, B2_nextBehind_69, B2_nextBehind_72]
          exact e1
        · by_cases le : y ≤ oT T s x
          · obtain ⟨r, e1, e2⟩ := ih (s + 1) g v (by omega) (by omega) (Or.inr ⟨y, h1, h2, ⟨i, by omega, h4, h5⟩, ext _ h6 (fun _ => le)⟩)
            refine ⟨r, ?_, e2⟩
            subst h2
            rw [B2_nextBehind_7]
            simp (disch := omega) only [if_pos, if_neg, ite_true, ite_false, not_true_eq_false, Bool.false_eq_true, not_false_eq_true, eq_self, obs, ob1, ob2, obx, opx, li_0, li_1, li_2, li_3, li_4, li_5, li_6, li_7, li_8, li_9, li_10, li_14, li_16, li_20, li_21, li_24, li_25, li_32, li_44, li_48, li_57, li_60, li_64, li_81, li_84, li_99, li_100, li_101, li_108, li_111, li_115, li_116, li_120, li_140, li_255, li_500, li_999, li_1000, li_1092, li_1176, li_10000, li_100000, li_1000000, li_N, li_M, nI_add, pk_mul, pk_sub, pk_div, pk_rem, k_mod, nI_clamp, nI_leI, nI_ltI, nI_eq, qin_nI, nI_m1, nN_lt, nN_lt2, nN_le, nN_le2, nN_eq, nN_eq2, qin_nN, Option.some.injEq, Prod.mk.injEq, Sum.inl.injEq, hT.2.1, rt, F2_weightOf, t3, w1, w2, c, B2_nextBehind_69, B2_nextBehind_72]
            exact e1
          · obtain ⟨r, e1, e2⟩ := ih (s + 1) g (nI (oT T s x)) (by omega) (by omega) (Or.inr ⟨oT T s x, hot, rfl, ⟨s, by omega, hc, rfl⟩, ext _ (fun i hi hci => by have := h6 i hi hci; omega) (fun _ => Nat.le_refl _)⟩)
            refine ⟨r, ?_, e2⟩
            subst h2
            rw [B2_nextBehind_7]
            simp (disch := omega) only [if_pos, if_neg, ite_true, ite_false, not_true_eq_false, Bool.false_eq_true, not_false_eq_true, eq_self, obs, ob1, ob2, obx, opx, li_0, li_1, li_2, li_3, li_4, li_5, li_6, li_7, li_8, li_9, li_10, li_14, li_16, li_20, li_21, li_24, li_25, li_32, li_44, li_48, li_57, li_60, li_64, li_81, li_84, li_99, li_100, li_101, li_108, li_111, li_115, li_116, li_120, li_140, li_255, li_500, li_999, li_1000, li_1092, li_1176, li_10000, li_100000, li_1000000, li_N, li_M, nI_add, pk_mul, pk_sub, pk_div, pk_rem, k_mod, nI_clamp, nI_leI, nI_ltI, nI_eq, qin_nI, nI_m1, nN_lt, nN_lt2, nN_le, nN_le2, nN_eq, nN_eq2, qin_nN, Option.some.injEq, Prod.mk.injEq, Sum.inl.injEq, hT.2.1, rt, F2_weightOf, t3, w1, w2, c, B2_nextBehind_69, B2_nextBehind_72]
            exact e1
      · obtain ⟨r, e1, e2⟩ := ih (s + 1) g v (by omega) (by omega) (skip (fun z => c z.2))
        refine ⟨r, ?_, e2⟩
        rw [B2_nextBehind_7]
        simp (disch := omega) only [if_pos, if_neg, ite_true, ite_false, not_true_eq_false, Bool.false_eq_true, not_false_eq_true, eq_self, obs, ob1, ob2, obx, opx, li_0, li_1, li_2, li_3, li_4, li_5, li_6, li_7, li_8, li_9, li_10, li_14, li_16, li_20, li_21, li_24, li_25, li_32, li_44, li_48, li_57, li_60, li_64, li_81, li_84, li_99, li_100, li_101, li_108, li_111, li_115, li_116, li_120, li_140, li_255, li_500, li_999, li_1000, li_1092, li_1176, li_10000, li_100000, li_1000000, li_N, li_M, nI_add, pk_mul, pk_sub, pk_div, pk_rem, k_mod, nI_clamp, nI_leI, nI_ltI, nI_eq, qin_nI, nI_m1, nN_lt, nN_lt2, nN_le, nN_le2, nN_eq, nN_eq2, qin_nN, Option.some.injEq, Prod.mk.injEq, Sum.inl.injEq, hT.2.1, rt, F2_weightOf, t3, w1, w2, c, B2_nextBehind_69, B2_nextBehind_72]
        exact e1
    · have rt : F5_reachedThrough a (nI s) (nI x) S = some nN := by rw [c_rt hT hv hk (by omega) hx, if_neg q]
      obtain ⟨r, e1, e2⟩ := ih (s + 1) g v (by omega) (by omega) (skip (fun z => q z.1))
      refine ⟨r, ?_, e2⟩
      rw [B2_nextBehind_7]
      simp (disch := omega) only [if_pos, if_neg, ite_true, ite_false, not_true_eq_false, Bool.false_eq_true, not_false_eq_true, eq_self, obs, ob1, ob2, obx, opx, li_0, li_1, li_2, li_3, li_4, li_5, li_6, li_7, li_8, li_9, li_10, li_14, li_16, li_20, li_21, li_24, li_25, li_32, li_44, li_48, li_57, li_60, li_64, li_81, li_84, li_99, li_100, li_101, li_108, li_111, li_115, li_116, li_120, li_140, li_255, li_500, li_999, li_1000, li_1092, li_1176, li_10000, li_100000, li_1000000, li_N, li_M, nI_add, pk_mul, pk_sub, pk_div, pk_rem, k_mod, nI_clamp, nI_leI, nI_ltI, nI_eq, qin_nI, nI_m1, nN_lt, nN_lt2, nN_le, nN_le2, nN_eq, nN_eq2, qin_nN, Option.some.injEq, Prod.mk.injEq, Sum.inl.injEq, hT.2.1, rt, B2_nextBehind_72]
      exact e1
theorem cS_cN {e : Gr} {T : Tn} {D W : Nat → Nat} {k go but x i : Nat} (hv : vK k T) (hG : isG e T but) (hgo : go < 9) (hD : gD 100 e go D) (hW : gD 16 e go W) (hbut : T 0 1 ≤ but) (hx : x < 9) (hxU : D x ≠ gU) (hi : i < T 0 1) (h : cS T W x i) : cN e D x (oT T i x) := by
  have he := isG_ok hv hG
  obtain ⟨h0, hj⟩ := oN_jn h.1
  have h1 := isG_jn hG hi h0 (by omega) hj
  have hv6 := hv.2.2.2.2.2.2.1 i hi
  have hne : e x (oT T i x) ≠ 0 := by omega
  refine ⟨hne, (gBoth_next he hgo hD hW hx hne hxU).mp ?_⟩
  rw [h1]
  have := h.2
  omega
theorem cN_cS {e : Gr} {T : Tn} {D W : Nat → Nat} {k go but x y : Nat} (hv : vK k T) (hG : isG e T but) (hgo : go < 9) (hD : gD 100 e go D) (hW : gD 16 e go W) (hx : x < 9) (hxU : D x ≠ gU) (h : cN e D x y) : ∃ i, i < T 0 1 ∧ cS T W x i ∧ oT T i x = y := by
  have he := isG_ok hv hG
  obtain ⟨i, hi, h0, hb, hei, hj⟩ := hG.2 x y h.1
  have hv6 := hv.2.2.2.2.2.2.1 i hi
  have ho : oT T i x = y := by
    unfold oT
    unfold jn at hj
    split <;> omega
  refine ⟨i, hi, ⟨?_, ?_⟩, ho⟩
  · unfold oN
    unfold jn at hj
    simp only [decide_eq_true_eq]
    omega
  · have := (gBoth_next he hgo hD hW hx h.1 hxU).mpr h.2
    rw [ho]
    omega
theorem c_nb {S : qSt} {o a k n x go but : Nat} {e : Gr} {T : Tn} {D W : Nat → Nat} (hT : isT S a T) (hv : vK k T) (hk : k ≤ 21) (hG : isG e T but) (hbut : T 0 1 ≤ but) (hgo : go < 9) (hD : gD 100 e go D) (hW16 : gD 16 e go W) (hW : isW S (o + 1) W) (hx : x < 9) (hxU : D x ≠ gU) (hn : 100 ≤ n) : (∀ y, isNx e D x y → F2_nextBehind n o a (nI x) S = some (nI y)) ∧ ((∀ y, ¬ cN e D x y) → F2_nextBehind n o a (nI x) S = some nN) := by
  have h0 := hv.2.2.1
  obtain ⟨r, e1, e2⟩ := c_nb_loop (n := n) hT hv hk hW (fun c hc => hW16.1.2.1 c hc) hx (T 0 1) 0 n nN (by omega) (by omega) (Or.inl ⟨rfl, fun i hi => by omega⟩)
  have e1' : F2_nextBehind n o a (nI x) S = some r := e1
  rw [e1']
  refine ⟨fun y hy => ?_, fun hno => ?_⟩
  · obtain ⟨i, hi, hc, ho⟩ := cN_cS hv hG hgo hD hW16 hx hxU hy.1
    rcases e2 with ⟨h1, h2⟩ | ⟨z, h1, h2, ⟨i2, h3, h4, h5⟩, h6⟩
    · exact absurd hc (h2 i hi)
    · have h7 := h6 i hi hc
      have h8 := cS_cN hv hG hgo hD hW16 hbut hx hxU h3 h4
      rw [h5] at h8
      have : ¬ z < y := fun q => hy.2 z q h8
      rw [h2, show z = y by omega]
  · rcases e2 with ⟨h1, h2⟩ | ⟨z, h1, h2, ⟨i2, h3, h4, h5⟩, h6⟩
    · rw [h1]
    · exact absurd (cS_cN hv hG hgo hD hW16 hbut hx hxU h3 h4) (hno _)
