/-! DISTANCES -/
def jn (T : Tn) (s a b : Nat) : Prop := (T 1 s = a ∧ T 2 s = b) ∨ (T 1 s = b ∧ T 2 s = a)
/-- the graph of a town, one street left out -/
def isG (e : Gr) (T : Tn) (but : Nat) : Prop := (∀ s, s < T 0 1 → T 4 s = 0 → s ≠ but → e (T 1 s) (T 2 s) = T 3 s ∧ e (T 2 s) (T 1 s) = T 3 s) ∧ ∀ a b, e a b ≠ 0 → ∃ s, s < T 0 1 ∧ T 4 s = 0 ∧ s ≠ but ∧ e a b = T 3 s ∧ jn T s a b
theorem isG_jn {e : Gr} {T : Tn} {but s a b : Nat} (h : isG e T but) (hs : s < T 0 1) (h0 : T 4 s = 0) (hb : s ≠ but) (hj : jn T s a b) : e a b = T 3 s := by
  have := h.1 s hs h0 hb
  rcases hj with ⟨rfl, rfl⟩ | ⟨rfl, rfl⟩
  · exact this.1
  · exact this.2
theorem jn_sym {T : Tn} {s a b : Nat} (h : jn T s a b) : jn T s b a := h.elim (fun q => Or.inr q) (fun q => Or.inl q)
theorem isG_ok {k : Nat} {e : Gr} {T : Tn} {but : Nat} (hv : vK k T) (h : isG e T but) : gOK e := by
  obtain ⟨v0, v1, v2, v3, v4, v5, v6, v7⟩ := hv
  have sym : ∀ a b, e a b ≠ 0 → e b a = e a b := fun a b hab => by
    obtain ⟨s, hs, h0, hb, he, hj⟩ := h.2 a b hab
    rw [isG_jn h hs h0 hb (jn_sym hj), he]
  refine ⟨fun a b => ?_, fun a => ?_, fun a b => ?_, fun a b hab => ?_⟩
  · by_cases p : e a b = 0
    · by_cases q : e b a = 0
      · rw [p, q]
      · exact sym b a q
    · exact (sym a b p).symm
  · refine Classical.byContradiction fun p => ?_
    obtain ⟨s, hs, h0, hb, he, hj⟩ := h.2 a a p
    have := v6 s hs
    unfold jn at hj
    omega
  · by_cases p : e a b = 0
    · omega
    · obtain ⟨s, hs, h0, hb, he, hj⟩ := h.2 a b p
      have := v6 s hs
      omega
  · obtain ⟨s, hs, h0, hb, he, hj⟩ := h.2 a b hab
    have := v6 s hs
    unfold jn at hj
    omega
theorem isG_ex (T : Tn) (but : Nat) {k : Nat} (hv : vK k T) : ∃ e, isG e T but := by
  obtain ⟨v0, v1, v2, v3, v4, v5, v6, v7⟩ := hv
  refine ⟨fun a b => match (List.range (T 0 1)).find? (fun s => decide (T 4 s = 0 ∧ s ≠ but ∧ T 1 s = min a b ∧ T 2 s = max a b)) with
    | some s => T 3 s
    | none => 0, fun s hs h0 hb => ?_, fun a b hab => ?_⟩
  · have key : ∀ a b, min a b = T 1 s → max a b = T 2 s → (match (List.range (T 0 1)).find? (fun s => decide (T 4 s = 0 ∧ s ≠ but ∧ T 1 s = min a b ∧ T 2 s = max a b)) with
        | some s => T 3 s
        | none => 0) = T 3 s := by
      intro a b ha hb2
      cases hf : (List.range (T 0 1)).find? (fun s => decide (T 4 s = 0 ∧ s ≠ but ∧ T 1 s = min a b ∧ T 2 s = max a b)) with
      | none =>
        have := List.find?_eq_none.mp hf s (List.mem_range.mpr hs)
        simp only [decide_eq_true_eq] at this
        exact absurd ⟨h0, hb, ha.symm, hb2.symm⟩ this
      | some r =>
        have h1 := List.find?_some hf
        have h2 := List.mem_range.mp (List.mem_of_find?_eq_some hf)
        simp only [decide_eq_true_eq] at h1
        have : r = s := v7 r s h2 hs (h1.2.2.1.trans ha) (h1.2.2.2.trans hb2)
        rw [this]
    have := v6 s hs
    exact ⟨key _ _ (Nat.min_eq_left (by omega)) (Nat.max_eq_right (by omega)), key _ _ (Nat.min_eq_right (by omega)) (Nat.max_eq_left (by omega))⟩
  · dsimp only at hab ⊢
    revert hab
    cases hf : (List.range (T 0 1)).find? (fun s => decide (T 4 s = 0 ∧ s ≠ but ∧ T 1 s = min a b ∧ T 2 s = max a b)) with
    | none => exact fun q => absurd rfl q
    | some r =>
      intro _
      have h1 := List.find?_some hf
      have h2 := List.mem_range.mp (List.mem_of_find?_eq_some hf)
      simp only [decide_eq_true_eq] at h1
      refine ⟨r, h2, h1.1, h1.2.1, rfl, ?_⟩
      unfold jn
      omega
def fU (d : Nat → Nat) (c v : Nat) : Nat → Nat := fun x => if x = c then v else d x
theorem fU_s {d : Nat → Nat} {c v : Nat} : fU d c v c = v := if_pos rfl
theorem fU_n {d : Nat → Nat} {c v x : Nat} (h : x ≠ c) : fU d c v x = d x := if_neg h
theorem gSup_relax {K : Nat} {e : Gr} {t x y : Nat} {d : Nat → Nat} (he : gOK e) (h : gSup K e t d) (hxy : e x y ≠ 0) (hlt : K * e x y + 1 + d y < d x) : gSup K e t (fU d x (K * e x y + 1 + d y)) := by
  have hne : x ≠ y := fun q => hxy (by rw [q]; exact he.2.1 y)
  have hx := he.2.2.2 x y hxy
  have hxU := h.2.1 x hx.1
  have hxt : t ≠ x := fun q => by
    have := h.1
    rw [q] at this
    omega
  have hle : ∀ c, fU d x (K * e x y + 1 + d y) c ≤ d c := fun c => by
    by_cases q : c = x
    · rw [q, fU_s]
      omega
    · rw [fU_n q]
      exact Nat.le_refl _
  refine ⟨by rw [fU_n hxt]; exact h.1, fun c hc => Nat.le_trans (hle c) (h.2.1 c hc), fun c hc hct => ?_⟩
  by_cases q : c = x
  · right
    refine ⟨y, by rw [q]; exact hxy, ?_⟩
    rw [q, fU_s, fU_n (fun z => hne z.symm)]
    exact Nat.le_refl _
  · rw [fU_n q]
    rcases h.2.2 c hc hct with r | ⟨b, hb, hle2⟩
    · exact Or.inl r
    · exact Or.inr ⟨b, hb, Nat.le_trans (Nat.add_le_add_left (hle b) _) hle2⟩
/-- weights of a route -/
def isW (S : qSt) (p : Nat) (d : Nat → Nat) : Prop := ∀ c, c < 9 → S p c = nI (d c)
theorem isW_up {S : qSt} {p c v : Nat} {d : Nat → Nat} (h : isW S p d) : isW (qup S p c (nI v)) p (fU d c v) := fun x hx => by
  by_cases q : x = c
  · subst q
    rw [qup_s, fU_s]
  · rw [qup_k _ _ _ q, fU_n q]
    exact h x hx
/-- one street looked at -/
theorem c_imp {S : qSt} {o a k but t s : Nat} {e : Gr} {T : Tn} {d : Nat → Nat} (hT : isT S a T) (hv : vK k T) (hk : k ≤ 21) (hG : isG e T but) (hW : isW S (o + 1) d) (hd : gSup 16 e t d) (hs : s < T 0 1) (h0 : T 4 s = 0) (hb : s ≠ but) : ∃ r S2 d2, F2_improves o a (nI s) S = some (nI r, S2) ∧ isW S2 (o + 1) d2 ∧ gSup 16 e t d2 ∧ kp [o + 1] S S2 ∧ (∀ c, d2 c ≤ d c) ∧ d2 (T 1 s) ≤ 16 * T 3 s + 1 + d2 (T 2 s) ∧ d2 (T 2 s) ≤ 16 * T 3 s + 1 + d2 (T 1 s) ∧ ((r = 0 ∧ d2 = d ∧ S2 = S) ∨ r = 1) := by
  have he := isG_ok hv hG
  have h00 := hv.2.2.1
  have h9 := hv.2.1
  obtain ⟨t1, t2, t3, t4⟩ := hT.2.2.2.2 s hs
  obtain ⟨v1, v2, v3, v4, v5⟩ := hv.2.2.2.2.2.2.1 s hs
  have w1 := hW (T 1 s) (by omega)
  have w2 := hW (T 2 s) (by omega)
  have u1 := hd.2.1 (T 1 s) (by omega)
  have u2 := hd.2.1 (T 2 s) (by omega)
  obtain ⟨e1, e2⟩ := hG.1 s hs h0 hb
  have hU : gU = 1000000 := rfl
  have m1 : d (T 1 s) + (T 3 s * 16 + 1) = 16 * e (T 2 s) (T 1 s) + 1 + d (T 1 s) := by rw [e2]; omega
  have m2 : d (T 2 s) + (T 3 s * 16 + 1) = 16 * e (T 1 s) (T 2 s) + 1 + d (T 2 s) := by rw [e1]; omega
  unfold F2_improves F2_weightOf
  by_cases c1 : d (T 2 s) ≤ d (T 1 s) + (T 3 s * 16 + 1)
  · by_cases c2 : d (T 1 s) ≤ d (T 2 s) + (T 3 s * 16 + 1)
    · refine ⟨0, S, d, ?_, hW, hd, kp_rfl, fun _ => Nat.le_refl _, by omega, by omega, Or.inl ⟨rfl, rfl, rfl⟩⟩
      simp (disch := omega) only [if_pos, if_neg, ite_true, ite_false, not_true_eq_false, Bool.false_eq_true, not_false_eq_true, eq_self, obs, ob1, ob2, obx, opx, li_0, li_1, li_2, li_3, li_4, li_5, li_6, li_7, li_8, li_9, li_10, li_14, li_16, li_20, li_21, li_24, li_25, li_32, li_44, li_48, li_57, li_60, li_64, li_81, li_84, li_99, li_100, li_101, li_108, li_111, li_115, li_116, li_120, li_140, li_255, li_500, li_999, li_1000, li_1092, li_1176, li_10000, li_100000, li_1000000, li_N, li_M, nI_add, pk_mul, pk_sub, pk_div, pk_rem, k_mod, nI_clamp, nI_leI, nI_ltI, nI_eq, qin_nI, nI_m1, nN_lt, nN_lt2, nN_le, nN_le2, nN_eq, nN_eq2, qin_nN, Option.some.injEq, Prod.mk.injEq, Sum.inl.injEq, t1, t2, t3, w1, w2]
    · refine ⟨1, qup S (o + 1) (T 1 s) (nI (d (T 2 s) + (T 3 s * 16 + 1))), fU d (T 1 s) (d (T 2 s) + (T 3 s * 16 + 1)), ?_, isW_up hW, ?_, kp_up kp_rfl (by simp), fun c => ?_, ?_, ?_, Or.inr rfl⟩
      · simp (disch := omega) only [if_pos, if_neg, ite_true, ite_false, not_true_eq_false, Bool.false_eq_true, not_false_eq_true, eq_self, obs, ob1, ob2, obx, opx, li_0, li_1, li_2, li_3, li_4, li_5, li_6, li_7, li_8, li_9, li_10, li_14, li_16, li_20, li_21, li_24, li_25, li_32, li_44, li_48, li_57, li_60, li_64, li_81, li_84, li_99, li_100, li_101, li_108, li_111, li_115, li_116, li_120, li_140, li_255, li_500, li_999, li_1000, li_1092, li_1176, li_10000, li_100000, li_1000000, li_N, li_M, nI_add, pk_mul, pk_sub, pk_div, pk_rem, k_mod, nI_clamp, nI_leI, nI_ltI, nI_eq, qin_nI, nI_m1, nN_lt, nN_lt2, nN_le, nN_le2, nN_eq, nN_eq2, qin_nN, Option.some.injEq, Prod.mk.injEq, Sum.inl.injEq, t1, t2, t3, w1, w2]
      · rw [m2]
        exact gSup_relax he hd (by omega) (by omega)
      · by_cases q : c = T 1 s
        · rw [q, fU_s]
          omega
        · rw [fU_n q]
          exact Nat.le_refl _
      · rw [fU_s, fU_n (by omega)]
        omega
      · rw [fU_s, fU_n (by omega)]
        omega
  · refine ⟨1, qup S (o + 1) (T 2 s) (nI (d (T 1 s) + (T 3 s * 16 + 1))), fU d (T 2 s) (d (T 1 s) + (T 3 s * 16 + 1)), ?_, isW_up hW, ?_, kp_up kp_rfl (by simp), fun c => ?_, ?_, ?_, Or.inr rfl⟩
    · simp (disch := omega) only [if_pos, if_neg, ite_true, ite_false, not_true_eq_false, Bool.false_eq_true, not_false_eq_true, eq_self, obs, ob1, ob2, obx, opx, li_0, li_1, li_2, li_3, li_4, li_5, li_6, li_7, li_8, li_9, li_10, li_14, li_16, li_20, li_21, li_24, li_25, li_32, li_44, li_48, li_57, li_60, li_64, li_81, li_84, li_99, li_100, li_101, li_108, li_111, li_115, li_116, li_120, li_140, li_255, li_500, li_999, li_1000, li_1092, li_1176, li_10000, li_100000, li_1000000, li_N, li_M, nI_add, pk_mul, pk_sub, pk_div, pk_rem, k_mod, nI_clamp, nI_leI, nI_ltI, nI_eq, qin_nI, nI_m1, nN_lt, nN_lt2, nN_le, nN_le2, nN_eq, nN_eq2, qin_nN, Option.some.injEq, Prod.mk.injEq, Sum.inl.injEq, t1, t2, t3, w1, w2]
    · rw [m1]
      exact gSup_relax he hd (by omega) (by omega)
    · by_cases q : c = T 2 s
      · rw [q, fU_s]
        omega
      · rw [fU_n q]
        exact Nat.le_refl _
    · rw [fU_s, fU_n (by omega)]
      omega
    · rw [fU_s, fU_n (by omega)]
      omega
theorem gD_succ {K : Nat} {e : Gr} {t c : Nat} {D : Nat → Nat} (h : gD K e t D) (hc : c < 9) (hU : D c ≠ gU) (hct : c ≠ t) : ∃ b, e c b ≠ 0 ∧ D c = K * e c b + 1 + D b := by
  rcases h.1.2.2 c hc hct with q | ⟨b, hb, hle⟩
  · exact absurd q hU
  · exact ⟨b, hb, Nat.le_antisymm (h.2 c b hb) hle⟩
theorem gD_ge {K : Nat} {e : Gr} {t c : Nat} {D d : Nat → Nat} (he : gOK e) (h : gD K e t D) (hd : gSup K e t d) (hc : c < 9) : D c ≤ d c := gD_le he h hd _ c rfl hc
theorem c_w_in {S0 : qSt} {o a k but t r n v : Nat} {e : Gr} {T : Tn} {D : Nat → Nat} {K : Int32 → Int32 → qSt → Option qSt} (hT : isT S0 a T) (hoa : o + 1 ∉ pT a) (hv : vK k T) (hk : k ≤ 21) (hG : isG e T but) (hbut : T 0 1 ≤ but) (hD : gD 16 e t D) : ∀ j s f S d b, s + j = T 0 1 → j < f → kp [o + 1] S0 S → isW S (o + 1) d → gSup 16 e t d → (∀ c, c < 9 → D c ≠ gU → D c % 16 ≤ r → d c = D c) → (∀ i, i < s → T 4 i = 0 → ∀ x y, jn T i x y → D x ≠ gU → D x = 16 * T 3 i + 1 + D y → D y % 16 ≤ r → d x = D x) → (b = 0 → ∀ i, i < s → T 4 i = 0 → d (T 1 i) ≤ 16 * T 3 i + 1 + d (T 2 i) ∧ d (T 2 i) ≤ 16 * T 3 i + 1 + d (T 1 i)) → ∃ b2 S2 d2, B2_weigh_52 n o a K f (nI b) (nI v) (nI s) S = K (nI b2) (nI (v + 1)) S2 ∧ kp [o + 1] S0 S2 ∧ isW S2 (o + 1) d2 ∧ gSup 16 e t d2 ∧ (∀ c, c < 9 → D c ≠ gU → D c % 16 ≤ r + 1 → d2 c = D c) ∧ (b2 = 0 → gSta 16 e d2) ∧ (b2 = b ∨ b2 = 1) := by
  have he := isG_ok hv hG
  have hn := hv.2.2.1
  have h9 := hv.2.1
  have hU : gU = 1000000 := rfl
  have nin : ∀ x, x ∈ [o + 1] → x ∉ pT a := fun x hx => by
    rw [List.mem_singleton.mp hx]
    exact hoa
  have inn : ∀ x, x ∈ pT a → x ∉ [o + 1] := fun x hx h2 => nin x h2 hx
  intro j
  induction j with
  | zero =>
    intro s f S d b hs hf hkp hW hd i2 iq ib
    obtain ⟨g, rfl, hg⟩ := fuel_s hf
    have hT1 := isT_kp hT hkp (inn _ (by simp)) (inn _ (by simp)) (inn _ (by simp)) (inn _ (by simp)) (inn _ (by simp))
    refine ⟨b, S, d, ?_, hkp, hW, hd, fun c hc hcU hcr => ?_, fun hb0 c x hcx => ?_, Or.inl rfl⟩
    · rw [B2_weigh_52]
      simp (disch := omega) only [if_pos, if_neg, ite_true, ite_false, not_true_eq_false, Bool.false_eq_true, not_false_eq_true, eq_self, obs, ob1, ob2, obx, opx, li_0, li_1, li_2, li_3, li_4, li_5, li_6, li_7, li_8, li_9, li_10, li_14, li_16, li_20, li_21, li_24, li_25, li_32, li_44, li_48, li_57, li_60, li_64, li_81, li_84, li_99, li_100, li_101, li_108, li_111, li_115, li_116, li_120, li_140, li_255, li_500, li_999, li_1000, li_1092, li_1176, li_10000, li_100000, li_1000000, li_N, li_M, nI_add, pk_mul, pk_sub, pk_div, pk_rem, k_mod, nI_clamp, nI_leI, nI_ltI, nI_eq, qin_nI, nI_m1, nN_lt, nN_lt2, nN_le, nN_le2, nN_eq, nN_eq2, qin_nN, Option.some.injEq, Prod.mk.injEq, Sum.inl.injEq, hT1.2.1, B2_weigh_89]
    · by_cases q : D c % 16 ≤ r
      · exact i2 c hc hcU q
      · have hct : c ≠ t := fun z => by
          rw [z, hD.1.1] at q
          omega
        obtain ⟨x, hx, hDx⟩ := gD_succ hD hc hcU hct
        have hx9 := (he.2.2.2 c x hx).2
        have hcle := hD.1.2.1 c hc
        have hxU : D x ≠ gU := by omega
        have := gD_fin16 he hD hx9 hxU
        obtain ⟨i, hi, h0, hbi, hei, hji⟩ := hG.2 c x hx
        exact iq i (by omega) h0 c x hji hcU (by rw [← hei]; exact hDx) (by omega)
    · obtain ⟨i, hi, h0, hbi, hei, hji⟩ := hG.2 c x hcx
      have := ib hb0 i (by omega) h0
      rw [hei]
      rcases hji with ⟨rfl, rfl⟩ | ⟨rfl, rfl⟩
      · exact this.1
      · exact this.2
  | succ j ih =>
    intro s f S d b hs hf hkp hW hd i2 iq ib
    obtain ⟨g, rfl, hg⟩ := fuel_s hf
    have hT1 := isT_kp hT hkp (inn _ (by simp)) (inn _ (by simp)) (inn _ (by simp)) (inn _ (by simp)) (inn _ (by simp))
    obtain ⟨t1, t2, t3, t4⟩ := hT1.2.2.2.2 s (by omega)
    obtain ⟨v1, v2, v3, v4, v5⟩ := hv.2.2.2.2.2.2.1 s (by omega)
    by_cases h0 : T 4 s = 0
    · obtain ⟨r1, S1, d1, e1, w1, s1, k1, le1, ra, rb, rc⟩ := c_imp hT1 hv hk hG hW hd (by omega) h0 (by omega)
      have sq : ∀ c, c < 9 → d c = D c → d1 c = D c := fun c hc hcd => Nat.le_antisymm (hcd ▸ le1 c) (gD_ge he hD s1 hc)
      have hjn : ∀ x y, jn T s x y → x < 9 ∧ y < 9 ∧ d1 x ≤ 16 * T 3 s + 1 + d1 y := fun x y h => by
        rcases h with ⟨rfl, rfl⟩ | ⟨rfl, rfl⟩
        · exact ⟨by omega, by omega, ra⟩
        · exact ⟨by omega, by omega, rb⟩
      have nq : ∀ i, i < s + 1 → T 4 i = 0 → ∀ x y, jn T i x y → D x ≠ gU → D x = 16 * T 3 i + 1 + D y → D y % 16 ≤ r → d1 x = D x := by
        intro i hi hi0 x y hj hxU hDx hr
        have hi6 := hv.2.2.2.2.2.2.1 i (by omega)
        have hx9 : x < 9 := by
          unfold jn at hj
          omega
        have hy9 : y < 9 := by
          unfold jn at hj
          omega
        by_cases q : i = s
        · subst q
          have hxle := hD.1.2.1 x hx9
          have hyU : D y ≠ gU := by omega
          have h1 := sq y hy9 (i2 y hy9 hyU hr)
          have h2 := (hjn x y hj).2.2
          have h3 := gD_ge he hD s1 hx9
          omega
        · exact sq x hx9 (iq i (by omega) hi0 x y hj hxU hDx hr)
      rcases rc with ⟨r0, rd, rs⟩ | r1e
      · subst r0 rd rs
        obtain ⟨b2, S2, d2, f1, f2⟩ := ih (s + 1) g S1 d1 b (by omega) (by omega) hkp hW hd i2 nq (fun hb0 i hi hi0 => by
          by_cases q : i = s
          · subst q
            exact ⟨ra, rb⟩
          · exact ib hb0 i (by omega) hi0)
        refine ⟨b2, S2, d2, ?_, f2⟩
        rw [B2_weigh_52]
        simp (disch := omega) only [if_pos, if_neg, ite_true, ite_false, not_true_eq_false, Bool.false_eq_true, not_false_eq_true, eq_self, obs, ob1, ob2, obx, opx, li_0, li_1, li_2, li_3, li_4, li_5, li_6, li_7, li_8, li_9, li_10, li_14, li_16, li_20, li_21, li_24, li_25, li_32, li_44, li_48, li_57, li_60, li_64, li_81, li_84, li_99, li_100, li_101, li_108, li_111, li_115, li_116, li_120, li_140, li_255, li_500, li_999, li_1000, li_1092, li_1176, li_10000, li_100000, li_1000000, li_N, li_M, nI_add, pk_mul, pk_sub, pk_div, pk_rem, k_mod, nI_clamp, nI_leI, nI_ltI, nI_eq, qin_nI, nI_m1, nN_lt, nN_lt2, nN_le, nN_le2, nN_eq, nN_eq2, qin_nN, Option.some.injEq, Prod.mk.injEq, Sum.inl.injEq, hT1.2.1, t4, h0, e1, B2_weigh_83]
        exact f1
      · subst r1e
        obtain ⟨b2, S2, d2, f1, f2, f3, f4, f5, f6, f7⟩ := ih (s + 1) g S1 d1 1 (by omega) (by omega) (kp_tr hkp k1 (fun _ h => h) (fun _ h => h)) w1 s1 (fun c hc hcU hcr => sq c hc (i2 c hc hcU hcr)) nq (fun hb0 => absurd hb0 (by omega))
        refine ⟨b2, S2, d2, ?_, f2, f3, f4, f5, f6, Or.inr (f7.elim id id)⟩
        rw [B2_weigh_52]
        simp (disch := omega) only [if_pos, if_neg, ite_true, ite_false, not_true_eq_false, Bool.false_eq_true, not_false_eq_true, eq_self, obs, ob1, ob2, obx, opx, li_0, li_1, li_2, li_3, li_4, li_5, li_6, li_7, li_8, li_9, li_10, li_14, li_16, li_20, li_21, li_24, li_25, li_32, li_44, li_48, li_57, li_60, li_64, li_81, li_84, li_99, li_100, li_101, li_108, li_111, li_115, li_116, li_120, li_140, li_255, li_500, li_999, li_1000, li_1092, li_1176, li_10000, li_100000, li_1000000, li_N, li_M, nI_add, pk_mul, pk_sub, pk_div, pk_rem, k_mod, nI_clamp, nI_leI, nI_ltI, nI_eq, qin_nI, nI_m1, nN_lt, nN_lt2, nN_le, nN_le2, nN_eq, nN_eq2, qin_nN, Option.some.injEq, Prod.mk.injEq, Sum.inl.injEq, hT1.2.1, t4, h0, e1, B2_weigh_83]
        exact f1
    · obtain ⟨b2, S2, d2, f1, f2⟩ := ih (s + 1) g S d b (by omega) (by omega) hkp hW hd i2 (fun i hi hi0 x y hj hxU hDx hr => by
          by_cases q : i = s
          · subst q
            exact absurd hi0 h0
          · exact iq i (by omega) hi0 x y hj hxU hDx hr) (fun hb0 i hi hi0 => by
          by_cases q : i = s
          · subst q
            exact absurd hi0 h0
          · exact ib hb0 i (by omega) hi0)
      refine ⟨b2, S2, d2, ?_, f2⟩
      rw [B2_weigh_52]
      simp (disch := omega) only [if_pos, if_neg, ite_true, ite_false, not_true_eq_false, Bool.false_eq_true, not_false_eq_true, eq_self, obs, ob1, ob2, obx, opx, li_0, li_1, li_2, li_3, li_4, li_5, li_6, li_7, li_8, li_9, li_10, li_14, li_16, li_20, li_21, li_24, li_25, li_32, li_44, li_48, li_57, li_60, li_64, li_81, li_84, li_99, li_100, li_101, li_108, li_111, li_115, li_116, li_120, li_140, li_255, li_500, li_999, li_1000, li_1092, li_1176, li_10000, li_100000, li_1000000, li_N, li_M, nI_add, pk_mul, pk_sub, pk_div, pk_rem, k_mod, nI_clamp, nI_leI, nI_ltI, nI_eq, qin_nI, nI_m1, nN_lt, nN_lt2, nN_le, nN_le2, nN_eq, nN_eq2, qin_nN, Option.some.injEq, Prod.mk.injEq, Sum.inl.injEq, hT1.2.1, t4, B2_weigh_83]
      exact f1
theorem c_w_out {S0 : qSt} {o a k but t n : Nat} {e : Gr} {T : Tn} {D : Nat → Nat} (hT : isT S0 a T) (hoa : o + 1 ∉ pT a) (hv : vK k T) (hk : k ≤ 21) (hG : isG e T but) (hbut : T 0 1 ≤ but) (hD : gD 16 e t D) (hn : 100 ≤ n) : ∀ j v f S d b, v + j = 9 → j < f → kp [o + 1] S0 S → isW S (o + 1) d → gSup 16 e t d → (∀ c, c < 9 → D c ≠ gU → D c % 16 ≤ v → d c = D c) → (b = 0 → gSta 16 e d) → b ≤ 1 → ∃ S2, B2_weigh_36 n o a f (nI b) (nI v) S = some S2 ∧ kp [o + 1] S0 S2 ∧ isW S2 (o + 1) D := by
  have he := isG_ok hv hG
  have hns := hv.2.2.1
  intro j
  induction j with
  | zero =>
    intro v f S d b hs hf hkp hW hd i2 ib hb1
    obtain ⟨g, rfl, hg⟩ := fuel_s hf
    refine ⟨S, ?_, hkp, fun c hc => ?_⟩
    · rw [B2_weigh_36]
      simp (disch := omega) only [if_pos, if_neg, ite_true, ite_false, not_true_eq_false, Bool.false_eq_true, not_false_eq_true, eq_self, obs, ob1, ob2, obx, opx, li_0, li_1, li_2, li_3, li_4, li_5, li_6, li_7, li_8, li_9, li_10, li_14, li_16, li_20, li_21, li_24, li_25, li_32, li_44, li_48, li_57, li_60, li_64, li_81, li_84, li_99, li_100, li_101, li_108, li_111, li_115, li_116, li_120, li_140, li_255, li_500, li_999, li_1000, li_1092, li_1176, li_10000, li_100000, li_1000000, li_N, li_M, nI_add, pk_mul, pk_sub, pk_div, pk_rem, k_mod, nI_clamp, nI_leI, nI_ltI, nI_eq, qin_nI, nI_m1, nN_lt, nN_lt2, nN_le, nN_le2, nN_eq, nN_eq2, qin_nN, Option.some.injEq, Prod.mk.injEq, Sum.inl.injEq]
      split <;> rfl
    · rw [hW c hc]
      by_cases q : D c = gU
      · have h1 := gD_ge he hD hd hc
        have h2 := hd.2.1 c hc
        rw [show d c = D c by omega]
      · have := gD_fin16 he hD hc q
        rw [i2 c hc q (by omega)]
  | succ j ih =>
    intro v f S d b hs hf hkp hW hd i2 ib hb1
    obtain ⟨g, rfl, hg⟩ := fuel_s hf
    by_cases hb : b = 0
    · refine ⟨S, ?_, hkp, fun c hc => ?_⟩
      · rw [B2_weigh_36]
        simp (disch := omega) only [if_pos, if_neg, ite_true, ite_false, not_true_eq_false, Bool.false_eq_true, not_false_eq_true, eq_self, obs, ob1, ob2, obx, opx, li_0, li_1, li_2, li_3, li_4, li_5, li_6, li_7, li_8, li_9, li_10, li_14, li_16, li_20, li_21, li_24, li_25, li_32, li_44, li_48, li_57, li_60, li_64, li_81, li_84, li_99, li_100, li_101, li_108, li_111, li_115, li_116, li_120, li_140, li_255, li_500, li_999, li_1000, li_1092, li_1176, li_10000, li_100000, li_1000000, li_N, li_M, nI_add, pk_mul, pk_sub, pk_div, pk_rem, k_mod, nI_clamp, nI_leI, nI_ltI, nI_eq, qin_nI, nI_m1, nN_lt, nN_lt2, nN_le, nN_le2, nN_eq, nN_eq2, qin_nN, Option.some.injEq, Prod.mk.injEq, Sum.inl.injEq]
      · rw [hW c hc, gD_uniq he ⟨hd, ib hb⟩ hD c hc]
    · obtain ⟨b2, S2, d2, f1, f2, f3, f4, f5, f6, f7⟩ := c_w_in (n := n) (v := v) (r := v) (K := B2_weigh_36 n o a g) hT hoa hv hk hG hbut hD (T 0 1) 0 n S d 0 (by omega) (by omega) hkp hW hd i2 (fun i hi => by omega) (fun _ i hi => by omega)
      obtain ⟨S3, g1, g2⟩ := ih (v + 1) g S2 d2 b2 (by omega) (by omega) f2 f3 f4 f5 f6 (by omega)
      refine ⟨S3, ?_, g2⟩
      rw [B2_weigh_36]
      simp (disch := omega) only [if_pos, if_neg, ite_true, ite_false, not_true_eq_false, Bool.false_eq_true, not_false_eq_true, eq_self, obs, ob1, ob2, obx, opx, li_0, li_1, li_2, li_3, li_4, li_5, li_6, li_7, li_8, li_9, li_10, li_14, li_16, li_20, li_21, li_24, li_25, li_32, li_44, li_48, li_57, li_60, li_64, li_81, li_84, li_99, li_100, li_101, li_108, li_111, li_115, li_116, li_120, li_140, li_255, li_500, li_999, li_1000, li_1092, li_1176, li_10000, li_100000, li_1000000, li_N, li_M, nI_add, pk_mul, pk_sub, pk_div, pk_rem, k_mod, nI_clamp, nI_leI, nI_ltI, nI_eq, qin_nI, nI_m1, nN_lt, nN_lt2, nN_le, nN_le2, nN_eq, nN_eq2, qin_nN, Option.some.injEq, Prod.mk.injEq, Sum.inl.injEq]
      exact f1.trans g1
theorem c_w_init {S0 : qSt} {o a n t : Nat} (ht : t < 9) : ∀ j c f S, c + j = 9 → j < f → kp [o + 1] S0 S → (∀ x, x < c → S (o + 1) x = nI (if x = t then 0 else gU)) → ∃ S2, B2_weigh_2 n o a f (nI t) (nI c) S = B2_weigh_31 n o a S2 ∧ kp [o + 1] S0 S2 ∧ isW S2 (o + 1) (fun x => if x = t then 0 else gU) := by
  have hU : nI gU = nI 1000000 := rfl
  intro j
  induction j with
  | zero =>
    intro c f S hs hf hkp hW
    obtain ⟨g, rfl, hg⟩ := fuel_s hf
    refine ⟨S, ?_, hkp, fun x hx => hW x (by omega)⟩
    rw [B2_weigh_2]
    simp (disch := omega) only [if_pos, if_neg, ite_true, ite_false, not_true_eq_false, Bool.false_eq_true, not_false_eq_true, eq_self, obs, ob1, ob2, obx, opx, li_0, li_1, li_2, li_3, li_4, li_5, li_6, li_7, li_8, li_9, li_10, li_14, li_16, li_20, li_21, li_24, li_25, li_32, li_44, li_48, li_57, li_60, li_64, li_81, li_84, li_99, li_100, li_101, li_108, li_111, li_115, li_116, li_120, li_140, li_255, li_500, li_999, li_1000, li_1092, li_1176, li_10000, li_100000, li_1000000, li_N, li_M, nI_add, pk_mul, pk_sub, pk_div, pk_rem, k_mod, nI_clamp, nI_leI, nI_ltI, nI_eq, qin_nI, nI_m1, nN_lt, nN_lt2, nN_le, nN_le2, nN_eq, nN_eq2, qin_nN, Option.some.injEq, Prod.mk.injEq, Sum.inl.injEq]
  | succ j ih =>
    intro c f S hs hf hkp hW
    obtain ⟨g, rfl, hg⟩ := fuel_s hf
    obtain ⟨S2, e1, e2⟩ := ih (c + 1) g (qup S (o + 1) c (nI (if c = t then 0 else gU))) (by omega) (by omega) (kp_up hkp (by simp)) (fun x hx => by
      by_cases q : x = c
      · subst q
        rw [qup_s]
      · rw [qup_k _ _ _ q]
        exact hW x (by omega))
    refine ⟨S2, ?_, e2⟩
    rw [B2_weigh_2, ← e1]
    by_cases q : c = t
    · simp (disch := omega) only [if_pos, if_neg, ite_true, ite_false, not_true_eq_false, Bool.false_eq_true, not_false_eq_true, eq_self, obs, ob1, ob2, obx, opx, li_0, li_1, li_2, li_3, li_4, li_5, li_6, li_7, li_8, li_9, li_10, li_14, li_16, li_20, li_21, li_24, li_25, li_32, li_44, li_48, li_57, li_60, li_64, li_81, li_84, li_99, li_100, li_101, li_108, li_111, li_115, li_116, li_120, li_140, li_255, li_500, li_999, li_1000, li_1092, li_1176, li_10000, li_100000, li_1000000, li_N, li_M, nI_add, pk_mul, pk_sub, pk_div, pk_rem, k_mod, nI_clamp, nI_leI, nI_ltI, nI_eq, qin_nI, nI_m1, nN_lt, nN_lt2, nN_le, nN_le2, nN_eq, nN_eq2, qin_nN, Option.some.injEq, Prod.mk.injEq, Sum.inl.injEq, B2_weigh_24, q]
    · simp (disch := omega) only [if_pos, if_neg, ite_true, ite_false, not_true_eq_false, Bool.false_eq_true, not_false_eq_true, eq_self, obs, ob1, ob2, obx, opx, li_0, li_1, li_2, li_3, li_4, li_5, li_6, li_7, li_8, li_9, li_10, li_14, li_16, li_20, li_21, li_24, li_25, li_32, li_44, li_48, li_57, li_60, li_64, li_81, li_84, li_99, li_100, li_101, li_108, li_111, li_115, li_116, li_120, li_140, li_255, li_500, li_999, li_1000, li_1092, li_1176, li_10000, li_100000, li_1000000, li_N, li_M, nI_add, pk_mul, pk_sub, pk_div, pk_rem, k_mod, nI_clamp, nI_leI, nI_ltI, nI_eq, qin_nI, nI_m1, nN_lt, nN_lt2, nN_le, nN_le2, nN_eq, nN_eq2, qin_nN, Option.some.injEq, Prod.mk.injEq, Sum.inl.injEq, B2_weigh_24, q, hU]
theorem c_weigh {S : qSt} {o a k but t n : Nat} {e : Gr} {T : Tn} {D : Nat → Nat} (hT : isT S a T) (hoa : o + 1 ∉ pT a) (hv : vK k T) (hk : k ≤ 21) (hG : isG e T but) (hbut : T 0 1 ≤ but) (hD : gD 16 e t D) (ht : t < 9) (hn : 100 ≤ n) : ∃ S2, F2_weigh n o a (nI t) S = some S2 ∧ kp [o + 1] S S2 ∧ isW S2 (o + 1) D := by
  have he := isG_ok hv hG
  obtain ⟨S1, e1, k1, w1⟩ := c_w_init (S0 := S) (o := o) (a := a) (n := n) ht 9 0 n S (by omega) (by omega) kp_rfl (fun x hx => by omega)
  obtain ⟨S2, e2, k2, w2⟩ := c_w_out hT hoa hv hk hG hbut hD hn 9 0 n S1 (fun x => if x = t then 0 else gU) 1 (by omega) (by omega) k1 w1 ⟨if_pos rfl, fun c hc => by dsimp only; split <;> omega, fun c hc hct => Or.inl (if_neg hct)⟩ (fun c hc hcU hcr => by
    by_cases hct : c = t
    · rw [hct, if_pos rfl, hD.1.1]
    · obtain ⟨x, hx, hDx⟩ := gD_succ hD hc hcU hct
      have hx9 := (he.2.2.2 c x hx).2
      have hcle := hD.1.2.1 c hc
      have hxU : D x ≠ gU := by omega
      have := gD_fin16 he hD hx9 hxU
      omega) (fun h => by omega) (by omega)
  refine ⟨S2, ?_, k2, w2⟩
  unfold F2_weigh
  rw [show (0 : Int32) = nI 0 from rfl, e1]
  exact e2
theorem c_lf {S : qSt} {o c : Nat} {D : Nat → Nat} (hW : isW S (o + 1) D) (hc : c < 9) (hD : D c ≤ gU) : F2_lengthFrom o (nI c) S = some (if D c = gU then nN else nI (D c / 16)) := by
  have hU : gU = 1000000 := rfl
  unfold F2_lengthFrom
  simp (disch := omega) only [if_pos, if_neg, ite_true, ite_false, not_true_eq_false, Bool.false_eq_true, not_false_eq_true, eq_self, obs, ob1, ob2, obx, opx, li_0, li_1, li_2, li_3, li_4, li_5, li_6, li_7, li_8, li_9, li_10, li_14, li_16, li_20, li_21, li_24, li_25, li_32, li_44, li_48, li_57, li_60, li_64, li_81, li_84, li_99, li_100, li_101, li_108, li_111, li_115, li_116, li_120, li_140, li_255, li_500, li_999, li_1000, li_1092, li_1176, li_10000, li_100000, li_1000000, li_N, li_M, nI_add, pk_mul, pk_sub, pk_div, pk_rem, k_mod, nI_clamp, nI_leI, nI_ltI, nI_eq, qin_nI, nI_m1, nN_lt, nN_lt2, nN_le, nN_le2, nN_eq, nN_eq2, qin_nN, Option.some.injEq, Prod.mk.injEq, Sum.inl.injEq, hW c hc, hU]
  by_cases q : D c = 1000000
  · simp [q]
  · simp [q]
