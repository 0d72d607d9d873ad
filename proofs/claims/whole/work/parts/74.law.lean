/-! THE LAW HOLDS -/
theorem okc_some {S : qSt} (h : Rel S) : okc (some S) := ⟨S, rfl, h⟩
theorem law_step {n L : Nat} {xs : Nat → Int32} {v4 : Int32} {S : qSt} (hn : 10000000000 ≤ n) (h : Rel S) (q1 : qin (v4 + 1) L = true) (q2 : qin (v4 + 2) L = true) (q3 : qin (v4 + 3) L = true) : okc (lawStep n xs L v4 S) := by
  have hm : 100000000 ≤ n := by omega
  unfold lawStep
  generalize (xs v4.toNatClampNeg &&& 31) = u
  by_cases c0 : u = 0
  · rw [if_pos c0]
    unfold CL_164
    rw [if_pos q1]
    exact k_append h _
  rw [if_neg c0]
  by_cases c1 : u = 1
  · rw [if_pos c1]
    unfold CL_220
    exact k_clearText h
  rw [if_neg c1]
  by_cases c2 : u = 2
  · rw [if_pos c2]
    unfold CL_233
    rw [if_pos q1]
    by_cases e : xs (v4 + 1).toNatClampNeg = 0
    · simp only [if_pos e]
      exact k_errT h hm
    · simp only [if_neg e]
      exact k_errP h hm
  rw [if_neg c2]
  by_cases c3 : u = 3
  · rw [if_pos c3]
    unfold CL_274
    exact k_load h hm
  rw [if_neg c3]
  by_cases c4 : u = 4
  · rw [if_pos c4]
    unfold CL_318
    rw [if_pos q1]
    exact k_about h hm _
  rw [if_neg c4]
  by_cases c5 : u = 5
  · rw [if_pos c5]
    unfold CL_374
    rw [if_pos q1, if_pos q2]
    exact k_street h hm _ _
  rw [if_neg c5]
  by_cases c6 : u = 6
  · rw [if_pos c6]
    unfold CL_442
    rw [if_pos q1, if_pos q2]
    exact k_crossing h hm _ _
  rw [if_neg c6]
  by_cases c7 : u = 7
  · rw [if_pos c7]
    unfold CL_510
    rw [if_pos q1, if_pos q2]
    exact k_between h hm _ _
  rw [if_neg c7]
  by_cases c8 : u = 8
  · rw [if_pos c8]
    unfold CL_578
    rw [if_pos q1]
    exact k_wayAt h hm _
  rw [if_neg c8]
  by_cases c9 : u = 9
  · rw [if_pos c9]
    unfold CL_634
    exact k_addCrossing h hm
  rw [if_neg c9]
  by_cases c10 : u = 10
  · rw [if_pos c10]
    unfold CL_678
    rw [if_pos q1, if_pos q2, if_pos q3]
    exact k_addStreet h hm _ _ _
  rw [if_neg c10]
  by_cases c11 : u = 11
  · rw [if_pos c11]
    unfold CL_758
    rw [if_pos q1]
    exact k_removeStreet h hm _
  rw [if_neg c11]
  by_cases c12 : u = 12
  · rw [if_pos c12]
    unfold CL_814
    rw [if_pos q1, if_pos q2]
    exact k_setLength h hm _ _
  rw [if_neg c12]
  by_cases c13 : u = 13
  · rw [if_pos c13]
    unfold CL_882
    rw [if_pos q1, if_pos q2]
    by_cases e : xs (v4 + 2).toNatClampNeg = 0
    · simp only [if_pos e]
      exact k_close h hm _ (b := 0) (by omega)
    · simp only [if_neg e]
      exact k_close h hm _ (b := 1) (by omega)
  rw [if_neg c13]
  by_cases c14 : u = 14
  · rw [if_pos c14]
    unfold CL_966
    rw [if_pos q1, if_pos q2]
    exact k_setEnds h hm _ _
  rw [if_neg c14]
  by_cases c15 : u = 15
  · rw [if_pos c15]
    unfold CL_1034
    exact k_runPlan h hm
  rw [if_neg c15]
  by_cases c16 : u = 16
  · rw [if_pos c16]
    unfold CL_1078
    exact k_undo h hm
  rw [if_neg c16]
  by_cases c17 : u = 17
  · rw [if_pos c17]
    unfold CL_1122
    rw [if_pos q1]
    exact k_without h hm _
  rw [if_neg c17]
  by_cases c18 : u = 18
  · rw [if_pos c18]
    unfold CL_1178
    rw [if_pos q1, if_pos q2]
    exact k_withoutAt h hm _ _
  rw [if_neg c18]
  by_cases c19 : u = 19
  · rw [if_pos c19]
    unfold CL_1246
    exact k_dearest h hm
  rw [if_neg c19]
  by_cases c20 : u = 20
  · rw [if_pos c20]
    unfold CL_1259
    rw [if_pos q1]
    exact k_upTo h hm _
  rw [if_neg c20]
  by_cases c21 : u = 21
  · rw [if_pos c21]
    unfold CL_1315
    rw [if_pos q1, if_pos q2, if_pos q3]
    exact k_saves h hm _ _ _
  rw [if_neg c21]
  by_cases c22 : u = 22
  · rw [if_pos c22]
    unfold CL_1395
    rw [if_pos q1]
    exact k_ways h hn _
  rw [if_neg c22]
  by_cases c23 : u = 23
  · rw [if_pos c23]
    unfold CL_1451
    exact k_middle h hm
  rw [if_neg c23]
  by_cases c24 : u = 24
  · rw [if_pos c24]
    unfold CL_1464
    rw [if_pos q1, if_pos q2, if_pos q3]
    exact k_runScript h hm _ _
  rw [if_neg c24]
  by_cases c25 : u = 25
  · rw [if_pos c25]
    unfold CL_1564
    rw [if_pos q1, if_pos q2, if_pos q3]
    exact k_simulate h hm _ _
  rw [if_neg c25]
  by_cases c26 : u = 26
  · rw [if_pos c26]
    unfold CL_1664
    rw [if_pos q1]
    exact k_save h hm _
  rw [if_neg c26]
  by_cases c27 : u = 27
  · rw [if_pos c27]
    unfold CL_1720
    rw [if_pos q1]
    exact k_restore h hm _
  rw [if_neg c27]
  exact okc_some h
theorem nI_sub_lt {a b : Nat} (ha : a < 2 ^ 30) (hb : b < 2 ^ 30) : (nI a - 4 < nI b) ↔ a < b + 4 := by
  rw [Int32.lt_iff_toInt_lt, show (4 : Int32) = nI 4 from rfl, pk_sub_toInt ha (by omega), nI_toInt (by omega)]
  omega
theorem law_run {n L : Nat} {xs : Nat → Int32} (hn : 10000000000 ≤ n) (hL : L ≤ 2048) : ∀ k i S, Rel S → 4 * i ≤ L → L < 4 * (i + k) → ∃ S2, lawRun n xs L k (nI (4 * i)) S = some S2 := by
  intro k
  induction k with
  | zero =>
    intro i S h h1 h2
    omega
  | succ k ih =>
    intro i S h h1 h2
    rw [lawRun]
    by_cases q : L < 4 * i + 4
    · refine ⟨S, ?_⟩
      rw [if_pos]
      exact (nI_sub_lt (a := L) (by omega) (by omega)).mpr q
    · have e1 : nI (4 * i) + 1 = nI (4 * i + 1) := nI_add (4 * i) 1
      have e2 : nI (4 * i) + 2 = nI (4 * i + 2) := nI_add (4 * i) 2
      have e3 : nI (4 * i) + 3 = nI (4 * i + 3) := nI_add (4 * i) 3
      have e4 : nI (4 * i) + 4 = nI (4 * (i + 1)) := nI_add (4 * i) 4
      obtain ⟨S1, s1, r1⟩ := law_step (xs := xs) hn h (v4 := nI (4 * i)) (L := L) (by rw [e1]; exact (qin_nI (by omega)).mpr (by omega)) (by rw [e2]; exact (qin_nI (by omega)).mpr (by omega)) (by rw [e3]; exact (qin_nI (by omega)).mpr (by omega))
      obtain ⟨S2, s2⟩ := ih (i + 1) S1 r1 (by omega) (by omega)
      refine ⟨S2, ?_⟩
      rw [if_neg (show ¬ (Int32.ofNat L - 4 < nI (4 * i)) from fun v => q ((nI_sub_lt (a := L) (by omega) (by omega)).mp v)), if_pos ((qin_nI (by omega)).mpr (by omega)), s1, ob1_s, e4]
      exact s2
/-! THE START -/
theorem g_clear_loop {S0 : qSt} {n : Nat} : ∀ j i f S, i + j = 84 → j < f → kp [114] S0 S → (∀ r, r < i → S 114 r = nI 0) → ∃ S2, Dc8_clear_2 n f 2 (nI i) S = some S2 ∧ kp [114] S0 S2 ∧ S2 114 0 = nI 2 ∧ ∀ r, 0 < r → r < 84 → S2 114 r = nI 0 := by
  intro j
  induction j with
  | zero =>
    intro i f S hs hf hk hr
    obtain ⟨g, rfl, hg⟩ := fuel_s hf
    refine ⟨qup S 114 0 (nI 2), ?_, kp_up hk (by simp), qup_s .., fun r h1 h2 => ?_⟩
    · rw [Dc8_clear_2]
      unfold Dc8_clear_18
      simp (disch := omega) only [if_pos, if_neg, ite_true, ite_false, not_true_eq_false, Bool.false_eq_true, not_false_eq_true, eq_self, obs, ob1, ob2, obx, opx, li_0, li_1, li_2, li_3, li_4, li_5, li_6, li_7, li_8, li_9, li_10, li_14, li_16, li_20, li_21, li_24, li_25, li_32, li_44, li_48, li_57, li_60, li_64, li_81, li_84, li_99, li_100, li_101, li_108, li_111, li_115, li_116, li_120, li_140, li_255, li_500, li_999, li_1000, li_1092, li_1176, li_10000, li_100000, li_1000000, li_N, li_M, nI_add, pk_mul, pk_sub, pk_div, pk_rem, k_mod, nI_clamp, nI_leI, nI_ltI, nI_eq, qin_nI, nI_m1, nN_lt, nN_lt2, nN_le, nN_le2, nN_eq, nN_eq2, qin_nN, Option.some.injEq, Prod.mk.injEq, Sum.inl.injEq]
    · rw [qup_k _ _ _ (by omega)]
      exact hr r (by omega)
  | succ j ih =>
    intro i f S hs hf hk hr
    obtain ⟨g, rfl, hg⟩ := fuel_s hf
    obtain ⟨S2, e2, k2, z2⟩ := ih (i + 1) g (qup S 114 i (nI 0)) (by omega) (by omega) (kp_up hk (by simp)) (fun r hr2 => by
      by_cases q : r = i
      · rw [q]
        exact qup_s ..
      · rw [qup_k _ _ _ q]
        exact hr r (by omega))
    refine ⟨S2, ?_, k2, z2⟩
    rw [Dc8_clear_2]
    simp (disch := omega) only [if_pos, if_neg, ite_true, ite_false, not_true_eq_false, Bool.false_eq_true, not_false_eq_true, eq_self, obs, ob1, ob2, obx, opx, li_0, li_1, li_2, li_3, li_4, li_5, li_6, li_7, li_8, li_9, li_10, li_14, li_16, li_20, li_21, li_24, li_25, li_32, li_44, li_48, li_57, li_60, li_64, li_81, li_84, li_99, li_100, li_101, li_108, li_111, li_115, li_116, li_120, li_140, li_255, li_500, li_999, li_1000, li_1092, li_1176, li_10000, li_100000, li_1000000, li_N, li_M, nI_add, pk_mul, pk_sub, pk_div, pk_rem, k_mod, nI_clamp, nI_leI, nI_ltI, nI_eq, qin_nI, nI_m1, nN_lt, nN_lt2, nN_le, nN_le2, nN_eq, nN_eq2, qin_nN, Option.some.injEq, Prod.mk.injEq, Sum.inl.injEq]
    exact e2
theorem g_tell {S : qSt} {a : Nat} {x1 x2 x3 x4 x5 : Int32} (ha : a ≤ 20) : ∃ R, Gc8_tell (nI a) x1 x2 x3 x4 x5 S = some R ∧ kp [119] S R ∧ (∀ i, i < a ∨ a + 5 ≤ i → R 119 i = S 119 i) ∧ R 119 a = x1 ∧ R 119 (a + 1) = x2 ∧ R 119 (a + 2) = x3 ∧ R 119 (a + 3) = x4 ∧ R 119 (a + 4) = x5 := by
  refine ⟨qup (qup (qup (qup (qup S 119 a x1) 119 (a + 1) x2) 119 (a + 2) x3) 119 (a + 3) x4) 119 (a + 4) x5, ?_, kp_up (kp_up (kp_up (kp_up (kp_up kp_rfl (by simp)) (by simp)) (by simp)) (by simp)) (by simp), fun i hi => ?_, ?_, ?_, ?_, ?_, qup_s ..⟩
  · unfold Gc8_tell
    simp (disch := omega) only [if_pos, if_neg, ite_true, ite_false, not_true_eq_false, Bool.false_eq_true, not_false_eq_true, eq_self, obs, ob1, ob2, obx, opx, li_0, li_1, li_2, li_3, li_4, li_5, li_6, li_7, li_8, li_9, li_10, li_14, li_16, li_20, li_21, li_24, li_25, li_32, li_44, li_48, li_57, li_60, li_64, li_81, li_84, li_99, li_100, li_101, li_108, li_111, li_115, li_116, li_120, li_140, li_255, li_500, li_999, li_1000, li_1092, li_1176, li_10000, li_100000, li_1000000, li_N, li_M, nI_add, pk_mul, pk_sub, pk_div, pk_rem, k_mod, nI_clamp, nI_leI, nI_ltI, nI_eq, qin_nI, nI_m1, nN_lt, nN_lt2, nN_le, nN_le2, nN_eq, nN_eq2, qin_nN, Option.some.injEq, Prod.mk.injEq, Sum.inl.injEq]
  · rw [qup_k _ _ _ (by omega), qup_k _ _ _ (by omega), qup_k _ _ _ (by omega), qup_k _ _ _ (by omega), qup_k _ _ _ (by omega)]
  · rw [qup_k _ _ _ (by omega), qup_k _ _ _ (by omega), qup_k _ _ _ (by omega), qup_k _ _ _ (by omega)]
    exact qup_s ..
  · rw [qup_k _ _ _ (by omega), qup_k _ _ _ (by omega), qup_k _ _ _ (by omega)]
    exact qup_s ..
  · rw [qup_k _ _ _ (by omega), qup_k _ _ _ (by omega)]
    exact qup_s ..
  · rw [qup_k _ _ _ (by omega)]
    exact qup_s ..
theorem S0c_0 {o : Nat} (h : (kd o).1 ≠ 5) (k : Nat) : S0c o k = nI 0 := by
  unfold S0c
  rw [if_neg h]
  rfl
theorem start_ok {n : Nat} (hn : 100 ≤ n) : ∃ S1, ctorTail n S0c = some S1 ∧ S1 126 = (fun _ => 0) ∧ Rel S1 := by
  obtain ⟨S2, e2, k2, z2, c2⟩ := g_clear_loop (S0 := S0c) (n := n) 84 0 n S0c (by omega) (by omega) kp_rfl (fun r hr => absurd hr (Nat.not_lt_zero _))
  obtain ⟨S5, e5, k5, o5, a50, a51, a52, a53, a54⟩ := g_tell (S := qup S2 114 3 (nI 1)) (a := 0) (x1 := 111) (x2 := 112) (x3 := 101) (x4 := 110) (x5 := 0) (by omega)
  obtain ⟨S7, e7, k7, o7, a70, a71, a72, a73, a74⟩ := g_tell (S := S5) (a := 5) (x1 := 99) (x2 := 108) (x3 := 111) (x4 := 115) (x5 := 101) (by omega)
  obtain ⟨S9, e9, k9, o9, a90, a91, a92, a93, a94⟩ := g_tell (S := S7) (a := 10) (x1 := 108) (x2 := 111) (x3 := 110) (x4 := 103) (x5 := 0) (by omega)
  obtain ⟨Sb, eb, kb, ob, ab0, ab1, ab2, ab3, ab4⟩ := g_tell (S := S9) (a := 15) (x1 := 101) (x2 := 110) (x3 := 100) (x4 := 115) (x5 := 0) (by omega)
  obtain ⟨Sd, ed, kd2, od, ad0, ad1, ad2, ad3, ad4⟩ := g_tell (S := Sb) (a := 20) (x1 := 116) (x2 := 117) (x3 := 114) (x4 := 110) (x5 := 0) (by omega)
  have kall : ∀ o, o ≠ 114 → o ≠ 119 → Sd o = S0c o := fun o h1 h2 => by
    rw [kd2 o (by simpa using h2), kb o (by simpa using h2), k9 o (by simpa using h2), k7 o (by simpa using h2), k5 o (by simpa using h2), qup_o _ _ _ h1, k2 o (by simpa using h1)]
  have k114 : Sd 114 = (qup S2 114 3 (nI 1)) 114 := by
    rw [kd2 114 (by decide), kb 114 (by decide), k9 114 (by decide), k7 114 (by decide), k5 114 (by decide)]
  refine ⟨Sd, ?_, ?_, 0, fun _ => 0, tB 2 0 1, 0, fun _ => tB 2 0 1, fun _ => 0, fun _ => tB 2 0 1, ?_, ?_, ?_⟩
  · have e2' : Gc8_clear n 2 S0c = some S2 := e2
    have e5' : Gc8_tell 0 111 112 101 110 0 (qup S2 114 (3 : Int32).toNatClampNeg (1 : Int32)) = some S5 := e5
    have e7' : Gc8_tell 5 99 108 111 115 101 S5 = some S7 := e7
    have e9' : Gc8_tell 10 108 111 110 103 0 S7 = some S9 := e9
    have eb' : Gc8_tell 15 101 110 100 115 0 S9 = some Sb := eb
    have ed' : Gc8_tell 20 116 117 114 110 0 Sb = some Sd := ed
    unfold ctorTail
    rw [e2', ob1_s, obs1, e5', ob1_s, e7', ob1_s, e9', ob1_s, eb', ob1_s, ed', ob1_s]
  · rw [kall 126 (by omega) (by omega)]
    funext k
    exact S0c_0 (by decide +kernel) k
  · have t8 : (kd 8).1 = 5 := by decide +kernel
    have w8 : ∀ k, Sd 8 k = if k = 0 then 2 else if k = 3 then 1 else 0 := fun k => by
      rw [kall 8 (by omega) (by omega)]
      unfold S0c
      rw [if_pos t8]
    refine ⟨⟨?_, fun i hi => absurd hi (Nat.not_lt_zero _)⟩, ⟨?_, ?_, ?_, ?_, fun s hs => absurd hs (Nat.not_lt_zero _)⟩, ⟨0, by omega, ?_, ?_, fun i hi => absurd hi (Nat.not_lt_zero _)⟩, fun j hj => ⟨?_, fun v => absurd rfl v⟩⟩
    · rw [kall 1 (by omega) (by omega)]
      exact S0c_0 (by decide +kernel) _
    · rw [w8]
      rfl
    · rw [w8]
      rfl
    · rw [w8]
      rfl
    · rw [w8]
      rfl
    · rw [kall 18 (by omega) (by omega)]
      exact S0c_0 (by decide +kernel) _
    · rw [kall 18 (by omega) (by omega)]
      exact S0c_0 (by decide +kernel) _
    · rw [kall 92 (by omega) (by omega)]
      exact S0c_0 (by decide +kernel) _
  · refine ⟨⟨?_, fun i hi => absurd hi (Nat.not_lt_zero _)⟩, ⟨?_, ?_, ?_, ?_, fun s hs => absurd hs (Nat.not_lt_zero _)⟩, ⟨?_, fun i hi => absurd hi (Nat.not_lt_zero _)⟩, fun j hj => ⟨?_, fun v => absurd rfl v⟩, fun i hi => ?_⟩
    · rw [kall 111 (by omega) (by omega)]
      exact S0c_0 (by decide +kernel) _
    · rw [k114, qup_k _ _ _ (by omega)]
      exact z2
    · rw [k114, qup_k _ _ _ (by omega)]
      exact c2 1 (by omega) (by omega)
    · rw [k114, qup_k _ _ _ (by omega)]
      exact c2 2 (by omega) (by omega)
    · rw [k114]
      exact qup_s ..
    · rw [kall 111 (by omega) (by omega)]
      exact S0c_0 (by decide +kernel) _
    · rw [kall 118 (by omega) (by omega)]
      exact S0c_0 (by decide +kernel) _
    · rcases (by omega : i = 0 ∨ i = 1 ∨ i = 2 ∨ i = 3 ∨ i = 4 ∨ i = 5 ∨ i = 6 ∨ i = 7 ∨ i = 8 ∨ i = 9 ∨ i = 10 ∨ i = 11 ∨ i = 12 ∨ i = 13 ∨ i = 14 ∨ i = 15 ∨ i = 16 ∨ i = 17 ∨ i = 18 ∨ i = 19 ∨ i = 20 ∨ i = 21 ∨ i = 22 ∨ i = 23 ∨ i = 24) with rfl | rfl | rfl | rfl | rfl | rfl | rfl | rfl | rfl | rfl | rfl | rfl | rfl | rfl | rfl | rfl | rfl | rfl | rfl | rfl | rfl | rfl | rfl | rfl | rfl
      · rw [od 0 (by omega), ob 0 (by omega), o9 0 (by omega), o7 0 (by omega)]
        exact a50
      · rw [od 1 (by omega), ob 1 (by omega), o9 1 (by omega), o7 1 (by omega)]
        exact a51
      · rw [od 2 (by omega), ob 2 (by omega), o9 2 (by omega), o7 2 (by omega)]
        exact a52
      · rw [od 3 (by omega), ob 3 (by omega), o9 3 (by omega), o7 3 (by omega)]
        exact a53
      · rw [od 4 (by omega), ob 4 (by omega), o9 4 (by omega), o7 4 (by omega)]
        exact a54
      · rw [od 5 (by omega), ob 5 (by omega), o9 5 (by omega)]
        exact a70
      · rw [od 6 (by omega), ob 6 (by omega), o9 6 (by omega)]
        exact a71
      · rw [od 7 (by omega), ob 7 (by omega), o9 7 (by omega)]
        exact a72
      · rw [od 8 (by omega), ob 8 (by omega), o9 8 (by omega)]
        exact a73
      · rw [od 9 (by omega), ob 9 (by omega), o9 9 (by omega)]
        exact a74
      · rw [od 10 (by omega), ob 10 (by omega)]
        exact a90
      · rw [od 11 (by omega), ob 11 (by omega)]
        exact a91
      · rw [od 12 (by omega), ob 12 (by omega)]
        exact a92
      · rw [od 13 (by omega), ob 13 (by omega)]
        exact a93
      · rw [od 14 (by omega), ob 14 (by omega)]
        exact a94
      · rw [od 15 (by omega)]
        exact ab0
      · rw [od 16 (by omega)]
        exact ab1
      · rw [od 17 (by omega)]
        exact ab2
      · rw [od 18 (by omega)]
        exact ab3
      · rw [od 19 (by omega)]
        exact ab4
      · exact ad0
      · exact ad1
      · exact ad2
      · exact ad3
      · exact ad4
  · exact ⟨by omega, fun i hi => absurd hi (Nat.not_lt_zero _), tB_v (by omega) (by omega) (by omega) (by omega) (by omega), by omega, fun i hi => absurd hi (Nat.not_lt_zero _), fun j hj => ⟨Nat.zero_le 1, fun v => absurd rfl v⟩⟩
theorem law_ok : LawOK := by
  intro xs L hL
  obtain ⟨n, hn⟩ : ∃ n, 10000000000 ≤ n := ⟨10000000000, Nat.le_refl _⟩
  obtain ⟨S1, e1, e2, r1⟩ := start_ok (n := n) (by omega)
  obtain ⟨S2, e3⟩ := law_run (xs := xs) hn hL 600 0 S1 r1 (by omega) (by omega)
  exact ⟨n, 600, S1, S2, Nat.le_refl _, e1, e2, e3⟩
