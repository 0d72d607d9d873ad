/-! WAYS -/
def sm (h : Nat → Nat) : Nat → Nat → Nat
  | 0, _ => 0
  | j + 1, s => h s + sm h j (s + 1)
/-- ways to the goal that go on from a, V passed, at most left long -/
def wN (e : Gr) (go : Nat) : Nat → Nat → Nat → Nat → Nat
  | 0, a, _, _ => if a = go then 1 else 0
  | k + 1, a, left, V => if a = go then 1 else sm (fun b => if e a b ≠ 0 ∧ V.testBit b = false ∧ e a b ≤ left then wN e go k b (left - e a b) (V ||| 2 ^ b) else 0) 9 0
theorem li_nN : (-999 : Int32) = nN := rfl
theorem sm_congr {g h : Nat → Nat} : ∀ j s, (∀ i, s ≤ i → i < s + j → g i = h i) → sm g j s = sm h j s := by
  intro j
  induction j with
  | zero => exact fun _ _ => rfl
  | succ j ih =>
    intro s q
    rw [sm, sm, q s (by omega) (by omega), ih (s + 1) (fun i h1 h2 => q i (by omega) (by omega))]
theorem sm_snoc {h : Nat → Nat} : ∀ j s, sm h (j + 1) s = sm h j s + h (s + j) := by
  intro j
  induction j with
  | zero =>
    intro s
    simp [sm]
  | succ j ih =>
    intro s
    rw [sm, ih (s + 1), sm, show s + 1 + j = s + (j + 1) by omega]
    omega
theorem sm_9 {g : Nat → Nat} {b v : Nat} (hb : b < 9) : sm (fun x => if x = b then g x + v else g x) 9 0 = sm g 9 0 + v := by
  simp only [sm]
  rcases (by omega : b = 0 ∨ b = 1 ∨ b = 2 ∨ b = 3 ∨ b = 4 ∨ b = 5 ∨ b = 6 ∨ b = 7 ∨ b = 8) with rfl | rfl | rfl | rfl | rfl | rfl | rfl | rfl | rfl <;> simp <;> omega
/-- streets at a crossing, told by the crossing behind them -/
theorem sm_swap {e : Gr} {T : Tn} {k a : Nat} {G : Nat → Nat → Nat} (hv : vK k T) (hk : k ≤ 21) (hG : isG e T 9999) (ha : a < 9) : sm (fun s => if oN T s a = true then G (oT T s a) (T 3 s) else 0) (T 0 1) 0 = sm (fun b => if e a b ≠ 0 then G b (e a b) else 0) 9 0 := by
  have hn := hv.2.2.1
  have h9 := hv.2.1
  have key : ∀ t, t ≤ T 0 1 → ∀ B : Nat → Bool, (∀ b, B b = true ↔ ∃ s, s < t ∧ oN T s a = true ∧ oT T s a = b) → sm (fun s => if oN T s a = true then G (oT T s a) (T 3 s) else 0) t 0 = sm (fun b => if B b = true then G b (e a b) else 0) 9 0 := by
    intro t
    induction t with
    | zero =>
      intro _ B hB
      have z : sm (fun b => if B b = true then G b (e a b) else 0) 9 0 = sm (fun _ => 0) 9 0 := by
        refine sm_congr 9 0 (fun i _ _ => ?_)
        have q : ¬ B i = true := fun q => by
          obtain ⟨s, hs, -⟩ := (hB i).mp q
          omega
        simp only [if_neg q]
      rw [z]
      rfl
    | succ t ih =>
      intro ht B hB
      obtain ⟨B2, hB2⟩ := bool_ex (fun b => ∃ s, s < t ∧ oN T s a = true ∧ oT T s a = b)
      rw [sm_snoc, ih (by omega) B2 hB2, Nat.zero_add]
      by_cases q : oN T t a = true
      · rw [if_pos q]
        obtain ⟨h0, hj⟩ := oN_jn q
        have hv6 := hv.2.2.2.2.2.2.1 t (by omega)
        have ho9 : oT T t a < 9 := by
          unfold jn at hj
          omega
        have he : e a (oT T t a) = T 3 t := isG_jn hG (by omega) h0 (by omega) hj
        have hno : ¬ B2 (oT T t a) = true := by
          intro z
          obtain ⟨s, hs, g1, g2⟩ := (hB2 _).mp z
          obtain ⟨-, hj2⟩ := oN_jn g1
          have hv62 := hv.2.2.2.2.2.2.1 s (by omega)
          have : s = t := by
            refine hv.2.2.2.2.2.2.2 s t (by omega) (by omega) ?_ ?_ <;> (unfold jn at hj hj2; omega)
          omega
        rw [← sm_9 ho9]
        refine sm_congr 9 0 (fun i _ _ => ?_)
        try dsimp only
        by_cases z : i = oT T t a
        · rw [if_pos z, z, if_neg hno, if_pos ((hB _).mpr ⟨t, by omega, q, rfl⟩), he]
          omega
        · rw [if_neg z]
          have : (B2 i = true) ↔ (B i = true) := by
            rw [hB2, hB]
            constructor
            · rintro ⟨s, g1, g2, g3⟩
              exact ⟨s, by omega, g2, g3⟩
            · rintro ⟨s, g1, g2, g3⟩
              refine ⟨s, ?_, g2, g3⟩
              have : s ≠ t := fun w => z (by rw [← g3, w])
              omega
          simp only [this]
      · rw [if_neg q, Nat.add_zero]
        refine sm_congr 9 0 (fun i _ _ => ?_)
        try dsimp only
        have : (B2 i = true) ↔ (B i = true) := by
          rw [hB2, hB]
          constructor
          · rintro ⟨s, g1, g2, g3⟩
            exact ⟨s, by omega, g2, g3⟩
          · rintro ⟨s, g1, g2, g3⟩
            refine ⟨s, ?_, g2, g3⟩
            have : s ≠ t := fun w => q (by rw [← w]; exact g2)
            omega
        simp only [this]
  obtain ⟨B, hB⟩ := bool_ex (fun b => ∃ s, s < T 0 1 ∧ oN T s a = true ∧ oT T s a = b)
  rw [key (T 0 1) (Nat.le_refl _) B hB]
  refine sm_congr 9 0 (fun i _ _ => ?_)
  try dsimp only
  have : (B i = true) ↔ e a i ≠ 0 := by
    rw [hB]
    constructor
    · rintro ⟨s, g1, g2, g3⟩
      obtain ⟨h0, hj⟩ := oN_jn g2
      have := isG_jn hG g1 h0 (by omega) hj
      have hv6 := hv.2.2.2.2.2.2.1 s g1
      rw [← g3]
      omega
    · intro q
      obtain ⟨s, g1, g2, g3, g4, g5⟩ := hG.2 a i q
      have hv6 := hv.2.2.2.2.2.2.1 s g1
      refine ⟨s, g1, ?_, ?_⟩
      · unfold oN
        unfold jn at g5
        simp only [decide_eq_true_eq]
        omega
      · unfold oT
        unfold jn at g5
        split <;> omega
  simp only [this]
theorem bits : ∀ V, V < 512 → ∀ b, b < 9 → ((nI V &&& (1 <<< (nI b &&& 31)) = nI 0 ↔ V.testBit b = false) ∧ nI V ||| (1 <<< (nI b &&& 31)) = nI (V ||| 2 ^ b) ∧ V ||| 2 ^ b < 512) := by decide +kernel
theorem bit_or {V b x : Nat} : (V ||| 2 ^ b).testBit x = (V.testBit x || decide (b = x)) := by
  rw [Nat.testBit_or, Nat.testBit_two_pow]
theorem c_ways_loop {S : qSt} {T : Tn} {n k go left V a d : Nat} {e : Gr} (hT : isT S 8 T) (hv : vT T) (ha : a < 9) (hV : V < 512) (hl : left ≤ 999) (hd : d < 9) (hrec : ∀ b l2 cnt, b < 9 → l2 ≤ 999 → cnt < 500 → F7_countWays n 8 k (nI b) (nI l2) (nI (V ||| 2 ^ b)) (nI (d + 1)) (nI cnt) S = some (nI (min 500 (cnt + wN e go (8 - d) b l2 (V ||| 2 ^ b))))) : ∀ j s f cnt, s + j = T 0 1 → j < f → cnt ≤ 500 → B7_countWays_30 n (F7_countWays n 8 k) 8 f (nI a) (nI left) (nI V) (nI d) (nI cnt) (nI s) S = some (nI (min 500 (cnt + sm (fun s => if oN T s a = true then (if V.testBit (oT T s a) = false ∧ T 3 s ≤ left then wN e go (8 - d) (oT T s a) (left - T 3 s) (V ||| 2 ^ (oT T s a)) else 0) else 0) j s))) := by
  have h9 := hv.2.1
  have h20 := hv.2.2.1
  intro j
  induction j with
  | zero =>
    intro s f cnt hs hf hc
    obtain ⟨g, rfl, hg⟩ := fuel_s hf
    rw [B7_countWays_30, sm, Nat.min_eq_right (by omega)]
    simp (disch := omega) only [if_pos, if_neg, ite_true, ite_false, not_true_eq_false, Bool.false_eq_true, not_false_eq_true, eq_self, obs, ob1, ob2, obx, opx, li_0, li_1, li_2, li_3, li_4, li_5, li_6, li_7, li_8, li_9, li_10, li_14, li_16, li_20, li_21, li_24, li_25, li_32, li_44, li_48, li_57, li_60, li_64, li_81, li_84, li_99, li_100, li_101, li_108, li_111, li_115, li_116, li_120, li_140, li_255, li_500, li_999, li_1000, li_1092, li_1176, li_10000, li_100000, li_1000000, li_N, li_M, nI_add, pk_mul, pk_sub, pk_div, pk_rem, k_mod, nI_clamp, nI_leI, nI_ltI, nI_eq, qin_nI, nI_m1, nN_lt, nN_lt2, nN_le, nN_le2, nN_eq, nN_eq2, qin_nN, Option.some.injEq, Prod.mk.injEq, Sum.inl.injEq, hT.2.1, Nat.add_zero]
  | succ j ih =>
    intro s f cnt hs hf hc
    obtain ⟨g, rfl, hg⟩ := fuel_s hf
    by_cases full : cnt = 500
    · rw [B7_countWays_30, Nat.min_eq_left (by omega), full]
      simp (disch := omega) only [if_pos, if_neg, ite_true, ite_false, not_true_eq_false, Bool.false_eq_true, not_false_eq_true, eq_self, obs, ob1, ob2, obx, opx, li_0, li_1, li_2, li_3, li_4, li_5, li_6, li_7, li_8, li_9, li_10, li_14, li_16, li_20, li_21, li_24, li_25, li_32, li_44, li_48, li_57, li_60, li_64, li_81, li_84, li_99, li_100, li_101, li_108, li_111, li_115, li_116, li_120, li_140, li_255, li_500, li_999, li_1000, li_1092, li_1176, li_10000, li_100000, li_1000000, li_N, li_M, nI_add, pk_mul, pk_sub, pk_div, pk_rem, k_mod, nI_clamp, nI_leI, nI_ltI, nI_eq, qin_nI, nI_m1, nN_lt, nN_lt2, nN_le, nN_le2, nN_eq, nN_eq2, qin_nN, Option.some.injEq, Prod.mk.injEq, Sum.inl.injEq, hT.2.1]
    · obtain ⟨v1, v2, v3, v4, v5⟩ := hv.2.2.2.2.2.2.1 s (by omega)
      obtain ⟨t1, t2, t3, t4⟩ := hT.2.2.2.2 s (by omega)
      rw [B7_countWays_30, sm]
      by_cases q : oN T s a = true
      · have ho9 : oT T s a < 9 := by
          unfold oT
          split <;> omega
        have hrt : F5_reachedThrough 8 (nI s) (nI a) S = some (nI (oT T s a)) := by rw [c_rt hT hv (by omega) (by omega) ha, if_pos q]
        obtain ⟨b1, b2, b3⟩ := bits V hV (oT T s a) ho9
        rw [if_pos q]
        have t3' : S (8 + 3) s = nI (T 3 s) := t3
        by_cases w : V.testBit (oT T s a) = false
        · have b1' := b1.mpr w
          by_cases w2 : T 3 s ≤ left
          · rw [if_pos (show V.testBit (oT T s a) = false ∧ T 3 s ≤ left from ⟨w, w2⟩)]
            simp only [li_nN, li_0, li_500]
            simp (disch := omega) only [hT.2.1, nI_leI, if_neg, ite_true, ite_false, hrt, ob1, nN_eq, b1', not_true_eq_false, if_pos, qin_nI, nI_clamp, t3', nI_ltI, pk_sub, b2, nI_1, hrec]
            unfold B7_countWays_113
            rw [show nI s + 1 = nI (s + 1) from nI_add s 1, ih (s + 1) g _ (by omega) (by omega) (by omega)]
            refine congrArg (fun z => some (nI z)) ?_
            omega
          · rw [if_neg (show ¬ (V.testBit (oT T s a) = false ∧ T 3 s ≤ left) from fun z => w2 z.2)]
            simp only [li_nN, li_0, li_500]
            simp (disch := omega) only [hT.2.1, nI_leI, if_neg, ite_true, ite_false, hrt, ob1, nN_eq, b1', not_true_eq_false, if_pos, qin_nI, nI_clamp, t3', nI_ltI]
            unfold B7_countWays_113
            rw [show nI s + 1 = nI (s + 1) from nI_add s 1, ih (s + 1) g _ (by omega) (by omega) (by omega), Nat.zero_add]
        · have b1' : ¬ (nI V &&& (1 <<< (nI (oT T s a) &&& 31)) = nI 0) := fun z => w (b1.mp z)
          rw [if_neg (show ¬ (V.testBit (oT T s a) = false ∧ T 3 s ≤ left) from fun z => w z.1)]
          simp only [li_nN, li_0, li_500]
          simp (disch := omega) only [hT.2.1, nI_leI, if_neg, ite_true, ite_false, hrt, ob1, nN_eq]
          simp only [b1', not_false_eq_true, ite_true]
          unfold B7_countWays_113
          rw [show nI s + 1 = nI (s + 1) from nI_add s 1, ih (s + 1) g _ (by omega) (by omega) (by omega), Nat.zero_add]
      · have hrt : F5_reachedThrough 8 (nI s) (nI a) S = some nN := by rw [c_rt hT hv (by omega) (by omega) ha, if_neg q]
        rw [if_neg q]
        simp (disch := omega) only [if_pos, if_neg, ite_true, ite_false, not_true_eq_false, Bool.false_eq_true, not_false_eq_true, eq_self, obs, ob1, ob2, obx, opx, li_0, li_1, li_2, li_3, li_4, li_5, li_6, li_7, li_8, li_9, li_10, li_14, li_16, li_20, li_21, li_24, li_25, li_32, li_44, li_48, li_57, li_60, li_64, li_81, li_84, li_99, li_100, li_101, li_108, li_111, li_115, li_116, li_120, li_140, li_255, li_500, li_999, li_1000, li_1092, li_1176, li_10000, li_100000, li_1000000, li_N, li_M, nI_add, pk_mul, pk_sub, pk_div, pk_rem, k_mod, nI_clamp, nI_leI, nI_ltI, nI_eq, qin_nI, nI_m1, nN_lt, nN_lt2, nN_le, nN_le2, nN_eq, nN_eq2, qin_nN, Option.some.injEq, Prod.mk.injEq, Sum.inl.injEq, hT.2.1, hrt, B7_countWays_113]
        rw [ih (s + 1) g cnt (by omega) (by omega) (by omega), Nat.zero_add]
theorem c_ways_rec {S : qSt} {T : Tn} {n : Nat} {e : Gr} (hT : isT S 8 T) (hv : vT T) (hG : isG e T 9999) (hn : 100 ≤ n) : ∀ k d f V a left cnt, d + k = 9 → 1 ≤ d → k < f → a < 9 → V < 512 → left ≤ 999 → cnt < 500 → F7_countWays n 8 f (nI a) (nI left) (nI V) (nI d) (nI cnt) S = some (nI (min 500 (cnt + wN e (T 0 3) k a left V))) := by
  have h9 := hv.2.1
  have h20 := hv.2.2.1
  have hgo := hv.2.2.2.2.1
  intro k
  induction k with
  | zero =>
    intro d f V a left cnt hd hd1 hf ha hV hl hc
    obtain ⟨g, rfl, hg⟩ := fuel_s hf
    rw [F7_countWays, wN]
    by_cases q : a = T 0 3
    · rw [if_pos q, Nat.min_eq_right (by omega)]
      simp (disch := omega) only [if_pos, if_neg, ite_true, ite_false, not_true_eq_false, Bool.false_eq_true, not_false_eq_true, eq_self, obs, ob1, ob2, obx, opx, li_0, li_1, li_2, li_3, li_4, li_5, li_6, li_7, li_8, li_9, li_10, li_14, li_16, li_20, li_21, li_24, li_25, li_32, li_44, li_48, li_57, li_60, li_64, li_81, li_84, li_99, li_100, li_101, li_108, li_111, li_115, li_116, li_120, li_140, li_255, li_500, li_999, li_1000, li_1092, li_1176, li_10000, li_100000, li_1000000, li_N, li_M, nI_add, pk_mul, pk_sub, pk_div, pk_rem, k_mod, nI_clamp, nI_leI, nI_ltI, nI_eq, qin_nI, nI_m1, nN_lt, nN_lt2, nN_le, nN_le2, nN_eq, nN_eq2, qin_nN, Option.some.injEq, Prod.mk.injEq, Sum.inl.injEq, hT.2.2.2.1, q]
    · rw [if_neg q, Nat.min_eq_right (by omega)]
      simp (disch := omega) only [if_pos, if_neg, ite_true, ite_false, not_true_eq_false, Bool.false_eq_true, not_false_eq_true, eq_self, obs, ob1, ob2, obx, opx, li_0, li_1, li_2, li_3, li_4, li_5, li_6, li_7, li_8, li_9, li_10, li_14, li_16, li_20, li_21, li_24, li_25, li_32, li_44, li_48, li_57, li_60, li_64, li_81, li_84, li_99, li_100, li_101, li_108, li_111, li_115, li_116, li_120, li_140, li_255, li_500, li_999, li_1000, li_1092, li_1176, li_10000, li_100000, li_1000000, li_N, li_M, nI_add, pk_mul, pk_sub, pk_div, pk_rem, k_mod, nI_clamp, nI_leI, nI_ltI, nI_eq, qin_nI, nI_m1, nN_lt, nN_lt2, nN_le, nN_le2, nN_eq, nN_eq2, qin_nN, Option.some.injEq, Prod.mk.injEq, Sum.inl.injEq, hT.2.2.2.1, Nat.add_zero]
  | succ k ih =>
    intro d f V a left cnt hd hd1 hf ha hV hl hc
    obtain ⟨g, rfl, hg⟩ := fuel_s hf
    rw [F7_countWays, wN]
    by_cases q : a = T 0 3
    · rw [if_pos q, Nat.min_eq_right (by omega)]
      simp (disch := omega) only [if_pos, if_neg, ite_true, ite_false, not_true_eq_false, Bool.false_eq_true, not_false_eq_true, eq_self, obs, ob1, ob2, obx, opx, li_0, li_1, li_2, li_3, li_4, li_5, li_6, li_7, li_8, li_9, li_10, li_14, li_16, li_20, li_21, li_24, li_25, li_32, li_44, li_48, li_57, li_60, li_64, li_81, li_84, li_99, li_100, li_101, li_108, li_111, li_115, li_116, li_120, li_140, li_255, li_500, li_999, li_1000, li_1092, li_1176, li_10000, li_100000, li_1000000, li_N, li_M, nI_add, pk_mul, pk_sub, pk_div, pk_rem, k_mod, nI_clamp, nI_leI, nI_ltI, nI_eq, qin_nI, nI_m1, nN_lt, nN_lt2, nN_le, nN_le2, nN_eq, nN_eq2, qin_nN, Option.some.injEq, Prod.mk.injEq, Sum.inl.injEq, hT.2.2.2.1, q]
    · rw [if_neg q]
      have main := c_ways_loop (n := n) (k := g) (go := T 0 3) (left := left) (V := V) (a := a) (d := d) (e := e) hT hv ha hV hl (by omega) (fun b l2 cnt hb hl2 hc2 => by
        have := ih (d + 1) g (V ||| 2 ^ b) b l2 cnt (by omega) (by omega) (by omega) hb (bits V hV b hb).2.2 hl2 hc2
        rw [show 8 - d = k by omega]
        exact this) (T 0 1) 0 n cnt (by omega) (by omega) (by omega)
      rw [sm_swap (G := fun b l => if V.testBit b = false ∧ l ≤ left then wN e (T 0 3) (8 - d) b (left - l) (V ||| 2 ^ b) else 0) hv (by omega) hG ha, show 8 - d = k by omega] at main
      simp (disch := omega) only [if_pos, if_neg, ite_true, ite_false, not_true_eq_false, Bool.false_eq_true, not_false_eq_true, eq_self, obs, ob1, ob2, obx, opx, li_0, li_1, li_2, li_3, li_4, li_5, li_6, li_7, li_8, li_9, li_10, li_14, li_16, li_20, li_21, li_24, li_25, li_32, li_44, li_48, li_57, li_60, li_64, li_81, li_84, li_99, li_100, li_101, li_108, li_111, li_115, li_116, li_120, li_140, li_255, li_500, li_999, li_1000, li_1092, li_1176, li_10000, li_100000, li_1000000, li_N, li_M, nI_add, pk_mul, pk_sub, pk_div, pk_rem, k_mod, nI_clamp, nI_leI, nI_ltI, nI_eq, qin_nI, nI_m1, nN_lt, nN_lt2, nN_le, nN_le2, nN_eq, nN_eq2, qin_nN, Option.some.injEq, Prod.mk.injEq, Sum.inl.injEq, hT.2.2.2.1]
      rw [main]
      congr 4
      refine sm_congr 9 0 (fun i _ _ => ?_)
      try dsimp only
      by_cases z : e a i ≠ 0
      · rw [if_pos z]
        by_cases w : V.testBit i = false ∧ e a i ≤ left
        · rw [if_pos w, if_pos ⟨z, w⟩]
        · rw [if_neg w, if_neg (fun y => w y.2)]
      · rw [if_neg z, if_neg (fun y => z y.1)]
