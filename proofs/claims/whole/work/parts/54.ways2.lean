/-! WAYS, the model -/
def cb (V : Nat) : Nat := cc (fun x => V.testBit x) 9 0
theorem bits2 : ∀ V, V < 512 → ∀ b, b < 9 → V.testBit b = false → cb (V ||| 2 ^ b) = cb V + 1 ∧ cb V ≤ 8 := by decide +kernel
theorem bits3 : ∀ b, b < 9 → (0 ||| 2 ^ b) < 512 ∧ cb 0 = 0 ∧ ∀ x, x < 9 → (Nat.testBit 0 x = false) := by decide +kernel
def isV (S : qSt) (V : Nat) : Prop := ∀ x, x < 9 → S 125 x = nI (if V.testBit x = true then 1 else 0)
def mB : Nat → Nat
  | 0 => 0
  | k + 1 => 10 * (1 + mB k)
/-- rows of the stack below a -/
def lowS (S S2 : qSt) (a : Nat) : Prop := ∀ i, i < a → S2 122 i = S 122 i ∧ S2 123 i = S 123 i ∧ S2 124 i = S 124 i
theorem lowS_tr {S S2 S3 : qSt} {a b : Nat} (h : lowS S S2 a) (h2 : lowS S2 S3 b) (hab : a ≤ b) : lowS S S3 a := fun i hi => by
  obtain ⟨x1, x2, x3⟩ := h i hi
  obtain ⟨y1, y2, y3⟩ := h2 i (by omega)
  exact ⟨y1.trans x1, y2.trans x2, y3.trans x3⟩
theorem lowS_mono {S S2 : qSt} {a b : Nat} (h : lowS S S2 b) (hab : a ≤ b) : lowS S S2 a := fun i hi => h i (by omega)
abbrev pY : List Nat := [122, 123, 124, 125]
def gW (e : Gr) (go k c left V : Nat) : Nat → Nat := fun b => if e c b ≠ 0 ∧ V.testBit b = false ∧ e c b ≤ left then wN e go k b (left - e c b) (V ||| 2 ^ b) else 0
theorem wN_s {e : Gr} {go k a left V : Nat} (h : a ≠ go) : wN e go (k + 1) a left V = sm (gW e go k a left V) 9 0 := by
  rw [wN, if_neg h]
  rfl
theorem wN_g {e : Gr} {go k left V : Nat} : wN e go k go left V = 1 := by
  cases k with
  | zero => rw [wN, if_pos rfl]
  | succ k => rw [wN, if_pos rfl]
theorem isV_or {S : qSt} {V c : Nat} (hV : isV S V) : isV (qup S 125 c (nI 1)) (V ||| 2 ^ c) := fun x hx => by
  rw [bit_or]
  by_cases q : x = c
  · subst q
    rw [qup_s]
    simp
  · rw [qup_k _ _ _ q, hV x hx]
    have : ¬ c = x := fun z => q z.symm
    simp [this]
theorem isV_off {S : qSt} {V c : Nat} (hV : isV S (V ||| 2 ^ c)) (hc : V.testBit c = false) : isV (qup S 125 c (nI 0)) V := fun x hx => by
  by_cases q : x = c
  · subst q
    rw [qup_s, hc]
    simp
  · rw [qup_k _ _ _ q, hV x hx, bit_or]
    have : ¬ c = x := fun z => q z.symm
    simp [this]
theorem m_ways {S0 : qSt} {n lim go : Nat} {e : Gr} (he : gOK e) (hC : isC S0 e) (hg3 : S0 114 3 = nI go) (hgo : go < 9) (hlim : lim ≤ 999) : ∀ k j to c V0 sl a cnt S, to + j = 9 → a + k = 8 → c < 9 → c ≠ go → V0 < 512 → V0.testBit c = false → V0.testBit go = false → cb V0 = a → kp pY S0 S → isV S (V0 ||| 2 ^ c) → S 122 a = nI c → S 123 a = nI to → S 124 a = nI sl → sl ≤ lim → cnt < 500 → ∃ m S2, m ≤ 1 + j * (1 + mB k) ∧ kp pY S0 S2 ∧ lowS S S2 a ∧ ((500 ≤ cnt + sm (gW e go (k - 1) c (lim - sl) (V0 ||| 2 ^ c)) j to ∧ ∀ f, B8_ways_102 n (f + m) (nI lim) (nI cnt) (nI a) S = some (nI 500, S2)) ∨ (cnt + sm (gW e go (k - 1) c (lim - sl) (V0 ||| 2 ^ c)) j to < 500 ∧ isV S2 V0 ∧ ∀ f, B8_ways_102 n (f + m) (nI lim) (nI cnt) (nI a) S = B8_ways_102 n f (nI lim) (nI (cnt + sm (gW e go (k - 1) c (lim - sl) (V0 ||| 2 ^ c)) j to)) (nI a + (-1)) S2)) := by
  intro k
  induction k with
  | zero =>
    intro j to c V0 sl a cnt S _ hak hc hcg hV0 hvc hvg hcb
    exfalso
    obtain ⟨b1, b2⟩ := bits2 V0 hV0 c hc hvc
    have b3 := (bits V0 hV0 c hc).2.2
    have hno : (V0 ||| 2 ^ c).testBit go = false := by
      rw [bit_or, hvg]
      simp [hcg]
    have := (bits2 (V0 ||| 2 ^ c) b3 go hgo hno).2
    omega
  | succ k ihk =>
    intro j
    induction j with
    | zero =>
      intro to c V0 sl a cnt S hto hak hc hcg hV0 hvc hvg hcb hk hV w1 w2 w3 hsl hcnt
      have hto9 : to = 9 := by omega
      refine ⟨1, qup (qup S 123 a (nI 10)) 125 c (nI 0), by omega, kp_up (kp_up hk (by simp)) (by simp), fun i hi => ⟨?_, ?_, ?_⟩, Or.inr ⟨by rw [sm]; omega, isV_off (fun x hx => ?_) hvc, fun f => ?_⟩⟩
      · rw [qup_o _ _ _ (by omega), qup_o _ _ _ (by omega)]
      · rw [qup_o _ _ _ (by omega), qup_k _ _ _ (by omega)]
      · rw [qup_o _ _ _ (by omega), qup_o _ _ _ (by omega)]
      · rw [qup_o _ _ _ (by omega)]
        exact hV x hx
      · rw [B8_ways_102, sm, show ((0 : Int32) &&& 1) = nI 0 from rfl]
        simp (disch := omega) only [if_pos, if_neg, ite_true, ite_false, not_true_eq_false, Bool.false_eq_true, not_false_eq_true, eq_self, obs, ob1, ob2, obx, opx, li_0, li_1, li_2, li_3, li_4, li_5, li_6, li_7, li_8, li_9, li_10, li_14, li_16, li_20, li_21, li_24, li_25, li_32, li_44, li_48, li_57, li_60, li_64, li_81, li_84, li_99, li_100, li_101, li_108, li_111, li_115, li_116, li_120, li_140, li_255, li_500, li_999, li_1000, li_1092, li_1176, li_10000, li_100000, li_1000000, li_N, li_M, nI_add, pk_mul, pk_sub, pk_div, pk_rem, k_mod, nI_clamp, nI_leI, nI_ltI, nI_eq, qin_nI, nI_m1, nN_lt, nN_lt2, nN_le, nN_le2, nN_eq, nN_eq2, qin_nN, Option.some.injEq, Prod.mk.injEq, Sum.inl.injEq, w1, w2, hto9, B8_ways_287, Nat.add_zero]
    | succ j ihj =>
      intro to c V0 sl a cnt S hto hak hc hcg hV0 hvc hvg hcb hk hV w1 w2 w3 hsl hcnt
      have hto9 : to < 9 := by omega
      have e120 : S 120 (9 * c + to) = nI (cst (e c to)) := by
        rw [hk 120 (by decide)]
        exact hC c to hc hto9
      have e114 : S 114 3 = nI go := by
        rw [hk 114 (by decide)]
        exact hg3
      have e125 := hV to hto9
      have b3 := (bits V0 hV0 c hc).2.2
      have e99 := he.2.2.1 c to
      have kS1 : kp pY S0 (qup S 123 a (nI (to + 1))) := kp_up hk (by simp)
      have lowS1 : lowS S (qup S 123 a (nI (to + 1))) a := fun i hi => ⟨by rw [qup_o _ _ _ (by omega)], qup_k _ _ _ (by omega), by rw [qup_o _ _ _ (by omega)]⟩
      have hV1 : isV (qup S 123 a (nI (to + 1))) (V0 ||| 2 ^ c) := fun x hx => by
        rw [qup_o _ _ _ (by omega)]
        exact hV x hx
      have q122 : (qup S 123 a (nI (to + 1))) 122 = S 122 := qup_o _ _ _ (by omega)
      have q124 : (qup S 123 a (nI (to + 1))) 124 = S 124 := qup_o _ _ _ (by omega)
      have q120 : (qup S 123 a (nI (to + 1))) 120 = S 120 := qup_o _ _ _ (by omega)
      have q125 : (qup S 123 a (nI (to + 1))) 125 = S 125 := qup_o _ _ _ (by omega)
      have q114 : (qup S 123 a (nI (to + 1))) 114 = S 114 := qup_o _ _ _ (by omega)
      have w1' : (qup S 123 a (nI (to + 1))) 122 a = nI c := by rw [q122]; exact w1
      have w3' : (qup S 123 a (nI (to + 1))) 124 a = nI sl := by rw [q124]; exact w3
      have hmul : (j + 1) * (1 + mB (k + 1)) = j * (1 + mB (k + 1)) + (1 + mB (k + 1)) := by rw [Nat.add_mul, Nat.one_mul]
      -- nothing comes of this crossing
      have skip : gW e go (k + 1 - 1) c (lim - sl) (V0 ||| 2 ^ c) to = 0 → (∀ f, B8_ways_102 n (f + 1) (nI lim) (nI cnt) (nI a) S = B8_ways_102 n f (nI lim) (nI cnt) (nI a) (qup S 123 a (nI (to + 1)))) → ∃ m S2, m ≤ 1 + (j + 1) * (1 + mB (k + 1)) ∧ kp pY S0 S2 ∧ lowS S S2 a ∧ ((500 ≤ cnt + sm (gW e go (k + 1 - 1) c (lim - sl) (V0 ||| 2 ^ c)) (j + 1) to ∧ ∀ f, B8_ways_102 n (f + m) (nI lim) (nI cnt) (nI a) S = some (nI 500, S2)) ∨ (cnt + sm (gW e go (k + 1 - 1) c (lim - sl) (V0 ||| 2 ^ c)) (j + 1) to < 500 ∧ isV S2 V0 ∧ ∀ f, B8_ways_102 n (f + m) (nI lim) (nI cnt) (nI a) S = B8_ways_102 n f (nI lim) (nI (cnt + sm (gW e go (k + 1 - 1) c (lim - sl) (V0 ||| 2 ^ c)) (j + 1) to)) (nI a + (-1)) S2)) := by
        intro h0 hstep
        obtain ⟨m, S2, hm, k2, l2, h⟩ := ihj (to + 1) c V0 sl a cnt (qup S 123 a (nI (to + 1))) (by omega) hak hc hcg hV0 hvc hvg hcb kS1 hV1 w1' (qup_s ..) w3' hsl hcnt
        refine ⟨m + 1, S2, by omega, k2, lowS_tr lowS1 l2 (Nat.le_refl _), ?_⟩
        rw [sm, h0, Nat.zero_add]
        rcases h with ⟨g1, g2⟩ | ⟨g1, g2, g3⟩
        · exact Or.inl ⟨g1, fun f => by rw [← Nat.add_assoc, hstep]; exact g2 f⟩
        · exact Or.inr ⟨g1, g2, fun f => by rw [← Nat.add_assoc, hstep]; exact g3 f⟩
      by_cases c0 : e c to = 0
      · refine skip ?_ (fun f => ?_)
        · unfold gW
          rw [if_neg (fun z => z.1 c0)]
        · rw [c0, show cst 0 = 0 from rfl] at e120
          rw [B8_ways_102]
          simp (disch := omega) only [if_pos, if_neg, ite_true, ite_false, not_true_eq_false, Bool.false_eq_true, not_false_eq_true, eq_self, obs, ob1, ob2, obx, opx, li_0, li_1, li_2, li_3, li_4, li_5, li_6, li_7, li_8, li_9, li_10, li_14, li_16, li_20, li_21, li_24, li_25, li_32, li_44, li_48, li_57, li_60, li_64, li_81, li_84, li_99, li_100, li_101, li_108, li_111, li_115, li_116, li_120, li_140, li_255, li_500, li_999, li_1000, li_1092, li_1176, li_10000, li_100000, li_1000000, li_N, li_M, nI_add, pk_mul, pk_sub, pk_div, pk_rem, k_mod, nI_clamp, nI_leI, nI_ltI, nI_eq, qin_nI, nI_m1, nN_lt, nN_lt2, nN_le, nN_le2, nN_eq, nN_eq2, qin_nN, Option.some.injEq, Prod.mk.injEq, Sum.inl.injEq, w1, w2, q120, e120, B8_ways_287]
      · have ce : cst (e c to) = 100 * e c to + 1 := if_neg c0
        rw [ce] at e120
        have div : (100 * e c to + 1) / 100 = e c to := by omega
        by_cases c1 : (V0 ||| 2 ^ c).testBit to = true
        · refine skip ?_ (fun f => ?_)
          · unfold gW
            rw [if_neg (fun z => by rw [c1] at z; exact absurd z.2.1 (by simp))]
          · rw [if_pos c1] at e125
            rw [B8_ways_102]
            simp (disch := omega) only [if_pos, if_neg, ite_true, ite_false, not_true_eq_false, Bool.false_eq_true, not_false_eq_true, eq_self, obs, ob1, ob2, obx, opx, li_0, li_1, li_2, li_3, li_4, li_5, li_6, li_7, li_8, li_9, li_10, li_14, li_16, li_20, li_21, li_24, li_25, li_32, li_44, li_48, li_57, li_60, li_64, li_81, li_84, li_99, li_100, li_101, li_108, li_111, li_115, li_116, li_120, li_140, li_255, li_500, li_999, li_1000, li_1092, li_1176, li_10000, li_100000, li_1000000, li_N, li_M, nI_add, pk_mul, pk_sub, pk_div, pk_rem, k_mod, nI_clamp, nI_leI, nI_ltI, nI_eq, qin_nI, nI_m1, nN_lt, nN_lt2, nN_le, nN_le2, nN_eq, nN_eq2, qin_nN, Option.some.injEq, Prod.mk.injEq, Sum.inl.injEq, w1, w2, q120, e120, q125, e125, B8_ways_287]
        · have c1' : (V0 ||| 2 ^ c).testBit to = false := by simpa using c1
          rw [if_neg c1] at e125
          by_cases c2 : sl + e c to ≤ lim
          · have hg : gW e go (k + 1 - 1) c (lim - sl) (V0 ||| 2 ^ c) to = wN e go k to (lim - sl - e c to) ((V0 ||| 2 ^ c) ||| 2 ^ to) := by
              unfold gW
              rw [if_pos ⟨c0, c1', by omega⟩, Nat.add_sub_cancel]
            by_cases c3 : to = go
            · have hone : gW e go (k + 1 - 1) c (lim - sl) (V0 ||| 2 ^ c) to = 1 := by
                rw [hg, c3, wN_g]
              have hstep : ∀ f, B8_ways_102 n (f + 1) (nI lim) (nI cnt) (nI a) S = B8_ways_102 n f (nI lim) (nI (cnt + 1)) (nI a) (qup S 123 a (nI (to + 1))) := fun f => by
                rw [B8_ways_102]
                simp (disch := omega) only [if_pos, if_neg, ite_true, ite_false, not_true_eq_false, Bool.false_eq_true, not_false_eq_true, eq_self, obs, ob1, ob2, obx, opx, li_0, li_1, li_2, li_3, li_4, li_5, li_6, li_7, li_8, li_9, li_10, li_14, li_16, li_20, li_21, li_24, li_25, li_32, li_44, li_48, li_57, li_60, li_64, li_81, li_84, li_99, li_100, li_101, li_108, li_111, li_115, li_116, li_120, li_140, li_255, li_500, li_999, li_1000, li_1092, li_1176, li_10000, li_100000, li_1000000, li_N, li_M, nI_add, pk_mul, pk_sub, pk_div, pk_rem, k_mod, nI_clamp, nI_leI, nI_ltI, nI_eq, qin_nI, nI_m1, nN_lt, nN_lt2, nN_le, nN_le2, nN_eq, nN_eq2, qin_nN, Option.some.injEq, Prod.mk.injEq, Sum.inl.injEq, w1, w2, q120, e120, q125, e125, q124, w3, div, q114, e114, B8_ways_287]
              by_cases c4 : cnt + 1 = 500
              · refine ⟨2, qup S 123 a (nI (to + 1)), ?_, kS1, lowS1, Or.inl ⟨?_, fun f => ?_⟩⟩
                · omega
                · rw [sm, hone]
                  omega
                · rw [show f + 2 = (f + 1) + 1 from rfl, hstep, B8_ways_102, c4]
                  simp (disch := omega) only [if_pos, if_neg, ite_true, ite_false, not_true_eq_false, Bool.false_eq_true, not_false_eq_true, eq_self, obs, ob1, ob2, obx, opx, li_0, li_1, li_2, li_3, li_4, li_5, li_6, li_7, li_8, li_9, li_10, li_14, li_16, li_20, li_21, li_24, li_25, li_32, li_44, li_48, li_57, li_60, li_64, li_81, li_84, li_99, li_100, li_101, li_108, li_111, li_115, li_116, li_120, li_140, li_255, li_500, li_999, li_1000, li_1092, li_1176, li_10000, li_100000, li_1000000, li_N, li_M, nI_add, pk_mul, pk_sub, pk_div, pk_rem, k_mod, nI_clamp, nI_leI, nI_ltI, nI_eq, qin_nI, nI_m1, nN_lt, nN_lt2, nN_le, nN_le2, nN_eq, nN_eq2, qin_nN, Option.some.injEq, Prod.mk.injEq, Sum.inl.injEq]
              · obtain ⟨m, S2, hm, k2, l2, h⟩ := ihj (to + 1) c V0 sl a (cnt + 1) (qup S 123 a (nI (to + 1))) (by omega) hak hc hcg hV0 hvc hvg hcb kS1 hV1 w1' (qup_s ..) w3' hsl (by omega)
                refine ⟨m + 1, S2, by omega, k2, lowS_tr lowS1 l2 (Nat.le_refl _), ?_⟩
                rw [sm, hone, ← Nat.add_assoc]
                rcases h with ⟨g1, g2⟩ | ⟨g1, g2, g3⟩
                · exact Or.inl ⟨g1, fun f => by rw [← Nat.add_assoc, hstep]; exact g2 f⟩
                · exact Or.inr ⟨g1, g2, fun f => by rw [← Nat.add_assoc, hstep]; exact g3 f⟩
            · -- one deeper
              obtain ⟨y1, y2⟩ := bits2 V0 hV0 c hc hvc
              have hno : (V0 ||| 2 ^ c).testBit go = false := by
                rw [bit_or, hvg]
                simp [hcg]
              obtain ⟨z1, z2⟩ := bits2 (V0 ||| 2 ^ c) b3 to hto9 c1'
              have b4 := (bits (V0 ||| 2 ^ c) b3 to hto9).2.2
              have hno2 : ((V0 ||| 2 ^ c) ||| 2 ^ to).testBit go = false := by
                rw [bit_or, hno]
                simp [c3]
              have z3 := (bits2 ((V0 ||| 2 ^ c) ||| 2 ^ to) b4 go hgo hno2).2
              obtain ⟨kk, rfl⟩ : ∃ kk, k = kk + 1 := ⟨k - 1, by omega⟩
              have hstep : ∀ f, B8_ways_102 n (f + 1) (nI lim) (nI cnt) (nI a) S = B8_ways_102 n f (nI lim) (nI cnt) (nI (a + 1)) (qup (qup (qup (qup (qup S 123 a (nI (to + 1))) 122 (a + 1) (nI to)) 123 (a + 1) (nI 0)) 124 (a + 1) (nI (sl + e c to))) 125 to (nI 1)) := fun f => by
                have u1 : ∀ X : qSt, (qup (qup X 122 (a + 1) (nI to)) 123 (a + 1) (nI 0)) 124 = X 124 := fun X => by rw [qup_o _ _ _ (by omega), qup_o _ _ _ (by omega)]
                have u2 : ∀ X : qSt, (qup (qup X 122 (a + 1) (nI to)) 123 (a + 1) (nI 0)) 120 = X 120 := fun X => by rw [qup_o _ _ _ (by omega), qup_o _ _ _ (by omega)]
                rw [B8_ways_102, show ((1 : Int32) &&& 1) = nI 1 from rfl]
                simp (disch := omega) only [if_pos, if_neg, ite_true, ite_false, not_true_eq_false, Bool.false_eq_true, not_false_eq_true, eq_self, obs, ob1, ob2, obx, opx, li_0, li_1, li_2, li_3, li_4, li_5, li_6, li_7, li_8, li_9, li_10, li_14, li_16, li_20, li_21, li_24, li_25, li_32, li_44, li_48, li_57, li_60, li_64, li_81, li_84, li_99, li_100, li_101, li_108, li_111, li_115, li_116, li_120, li_140, li_255, li_500, li_999, li_1000, li_1092, li_1176, li_10000, li_100000, li_1000000, li_N, li_M, nI_add, pk_mul, pk_sub, pk_div, pk_rem, k_mod, nI_clamp, nI_leI, nI_ltI, nI_eq, qin_nI, nI_m1, nN_lt, nN_lt2, nN_le, nN_le2, nN_eq, nN_eq2, qin_nN, Option.some.injEq, Prod.mk.injEq, Sum.inl.injEq, w1, w2, q120, e120, q125, e125, q124, w3, div, q114, e114, c3, B8_ways_287, u1, u2, Nat.add_sub_cancel]
              have kS5 : kp pY S0 (qup (qup (qup (qup (qup S 123 a (nI (to + 1))) 122 (a + 1) (nI to)) 123 (a + 1) (nI 0)) 124 (a + 1) (nI (sl + e c to))) 125 to (nI 1)) := kp_up (kp_up (kp_up (kp_up kS1 (by simp)) (by simp)) (by simp)) (by simp)
              have hV5 : isV (qup (qup (qup (qup (qup S 123 a (nI (to + 1))) 122 (a + 1) (nI to)) 123 (a + 1) (nI 0)) 124 (a + 1) (nI (sl + e c to))) 125 to (nI 1)) ((V0 ||| 2 ^ c) ||| 2 ^ to) := isV_or (fun x hx => by
                rw [qup_o _ _ _ (by omega), qup_o _ _ _ (by omega), qup_o _ _ _ (by omega)]
                exact hV1 x hx)
              have low5 : lowS (qup S 123 a (nI (to + 1))) (qup (qup (qup (qup (qup S 123 a (nI (to + 1))) 122 (a + 1) (nI to)) 123 (a + 1) (nI 0)) 124 (a + 1) (nI (sl + e c to))) 125 to (nI 1)) (a + 1) := fun i hi => by
                refine ⟨?_, ?_, ?_⟩
                · rw [qup_o _ _ _ (by omega), qup_o _ _ _ (by omega), qup_o _ _ _ (by omega), qup_k _ _ _ (by omega)]
                · rw [qup_o _ _ _ (by omega), qup_o _ _ _ (by omega), qup_k _ _ _ (by omega), qup_o _ _ _ (by omega)]
                · rw [qup_o _ _ _ (by omega), qup_k _ _ _ (by omega), qup_o _ _ _ (by omega), qup_o _ _ _ (by omega)]
              obtain ⟨m1, S6, hm1, k6, l6, h6⟩ := ihk 9 0 to (V0 ||| 2 ^ c) (sl + e c to) (a + 1) cnt _ (by omega) (by omega) hto9 c3 b3 c1' hno (by omega) kS5 hV5 (by
                rw [qup_o _ _ _ (by omega), qup_o _ _ _ (by omega), qup_o _ _ _ (by omega), qup_s]) (by
                rw [qup_o _ _ _ (by omega), qup_o _ _ _ (by omega), qup_s]) (by
                rw [qup_o _ _ _ (by omega), qup_s]) c2 hcnt
              have hchild : gW e go (kk + 1 + 1 - 1) c (lim - sl) (V0 ||| 2 ^ c) to = sm (gW e go (kk + 1 - 1) to (lim - (sl + e c to)) ((V0 ||| 2 ^ c) ||| 2 ^ to)) 9 0 := by
                rw [hg, wN_s c3, Nat.add_sub_cancel, Nat.sub_sub]
              have low6 : lowS (qup S 123 a (nI (to + 1))) S6 (a + 1) := lowS_tr low5 l6 (Nat.le_refl _)
              have mBk : mB (kk + 1 + 1) = 10 * (1 + mB (kk + 1)) := rfl
              rw [← hchild] at h6
              rcases h6 with ⟨g1, g2⟩ | ⟨g1, g2, g3⟩
              · refine ⟨m1 + 1, S6, by omega, k6, lowS_tr lowS1 low6 (by omega), Or.inl ⟨?_, fun f => by rw [← Nat.add_assoc, hstep]; exact g2 f⟩⟩
                rw [sm]
                omega
              · obtain ⟨r1, r2, r3⟩ := low6 a (by omega)
                obtain ⟨m, S2, hm, k2, l2, h⟩ := ihj (to + 1) c V0 sl a (cnt + gW e go (kk + 1 + 1 - 1) c (lim - sl) (V0 ||| 2 ^ c) to) S6 (by omega) hak hc hcg hV0 hvc hvg hcb k6 g2 (r1.trans w1') (r2.trans (qup_s ..)) (r3.trans w3') hsl g1
                have hstep2 : ∀ f, B8_ways_102 n (f + m1 + 1) (nI lim) (nI cnt) (nI a) S = B8_ways_102 n f (nI lim) (nI (cnt + gW e go (kk + 1 + 1 - 1) c (lim - sl) (V0 ||| 2 ^ c) to)) (nI a) S6 := fun f => by
                  rw [hstep, g3 f, show nI (a + 1) + (-1) = nI a from pk_m1 a]
                refine ⟨m + m1 + 1, S2, by omega, k2, lowS_tr lowS1 (lowS_tr (lowS_mono low6 (by omega)) l2 (Nat.le_refl _) : lowS _ S2 a) (Nat.le_refl _), ?_⟩
                rw [sm, ← Nat.add_assoc]
                rcases h with ⟨i1, i2⟩ | ⟨i1, i2, i3⟩
                · exact Or.inl ⟨i1, fun f => by rw [show f + (m + m1 + 1) = (f + m) + m1 + 1 by omega, hstep2]; exact i2 f⟩
                · exact Or.inr ⟨i1, i2, fun f => by rw [show f + (m + m1 + 1) = (f + m) + m1 + 1 by omega, hstep2]; exact i3 f⟩
          · refine skip ?_ (fun f => ?_)
            · unfold gW
              rw [if_neg (fun z => c2 (by have := z.2.2; omega))]
            · rw [B8_ways_102]
              simp (disch := omega) only [if_pos, if_neg, ite_true, ite_false, not_true_eq_false, Bool.false_eq_true, not_false_eq_true, eq_self, obs, ob1, ob2, obx, opx, li_0, li_1, li_2, li_3, li_4, li_5, li_6, li_7, li_8, li_9, li_10, li_14, li_16, li_20, li_21, li_24, li_25, li_32, li_44, li_48, li_57, li_60, li_64, li_81, li_84, li_99, li_100, li_101, li_108, li_111, li_115, li_116, li_120, li_140, li_255, li_500, li_999, li_1000, li_1092, li_1176, li_10000, li_100000, li_1000000, li_N, li_M, nI_add, pk_mul, pk_sub, pk_div, pk_rem, k_mod, nI_clamp, nI_leI, nI_ltI, nI_eq, qin_nI, nI_m1, nN_lt, nN_lt2, nN_le, nN_le2, nN_eq, nN_eq2, qin_nN, Option.some.injEq, Prod.mk.injEq, Sum.inl.injEq, w1, w2, q120, e120, q125, e125, q124, w3, div, B8_ways_287]
