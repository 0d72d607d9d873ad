/-! QUESTIONS -/
theorem isG_shut {e : Gr} {T : Tn} {s : Nat} (hn : T 0 1 ≤ 21) (h : isG e T s) : isG e (tU T 4 s 1) 9999 := by
  have q : ∀ x, tU T 4 s 1 0 x = T 0 x := fun x => by simp (disch := omega) only [qup_e, if_pos, if_neg, ite_true, ite_false, eq_self, and_self, true_and, and_true, tU]
  have q1 : ∀ x, tU T 4 s 1 1 x = T 1 x := fun x => by simp (disch := omega) only [qup_e, if_pos, if_neg, ite_true, ite_false, eq_self, and_self, true_and, and_true, tU]
  have q2 : ∀ x, tU T 4 s 1 2 x = T 2 x := fun x => by simp (disch := omega) only [qup_e, if_pos, if_neg, ite_true, ite_false, eq_self, and_self, true_and, and_true, tU]
  have q3 : ∀ x, tU T 4 s 1 3 x = T 3 x := fun x => by simp (disch := omega) only [qup_e, if_pos, if_neg, ite_true, ite_false, eq_self, and_self, true_and, and_true, tU]
  have q4 : ∀ x, tU T 4 s 1 4 x = if x = s then 1 else T 4 x := fun x => by simp (disch := omega) only [qup_e, if_pos, if_neg, ite_true, ite_false, eq_self, and_self, true_and, and_true, tU]
  unfold isG jn
  simp only [q, q1, q2, q3, q4]
  refine ⟨fun r hr h0 _ => ?_, fun a b hab => ?_⟩
  · by_cases z : r = s
    · rw [if_pos z] at h0
      omega
    · rw [if_neg z] at h0
      exact h.1 r hr h0 z
  · obtain ⟨r, h1, h2, h3, h4, h5⟩ := h.2 a b hab
    refine ⟨r, h1, ?_, by omega, h4, h5⟩
    rw [if_neg h3]
    exact h2
theorem apart_mem {o a x : Nat} (h : apart o a) (hx : a ≤ x) (hx2 : x ≤ a + 4) : x ∉ pR o := by
  unfold apart at h
  simp only [List.mem_cons, List.not_mem_nil, or_false]
  omega
theorem c_bl {S : qSt} {a k n but : Nat} {e : Gr} {T : Tn} {D : Nat → Nat} (hT : isT S a T) (hap : apart 107 a) (hv : vK k T) (hk : k ≤ 21) (hG : isG e T but) (hbut : T 0 1 ≤ but) (hD : gD 100 e (T 0 3) D) (hn : 100 ≤ n) : ∃ S2, F7_bestLengthIn n a S = some (lenI (D (T 0 2)), S2) ∧ kp (pR 107) S S2 := by
  have he := isG_ok hv hG
  have h9 := hv.2.1
  have h2 := hv.2.2.2.1
  have h3 := hv.2.2.2.2.1
  have hW16 := gConv_D he (by omega) hD
  obtain ⟨S2, e2, k2, w2⟩ := c_weigh (o := 107) (n := n) hT (fun q => by
    unfold apart at hap
    simp only [List.mem_cons, List.not_mem_nil, or_false] at q
    omega) hv hk hG hbut hW16 (by omega) hn
  have k3 : kp (pR 107) S S2 := kp_mono k2 (by simp)
  have hT2 := isT_ap hT hap k3
  refine ⟨S2, ?_, k3⟩
  unfold F7_bestLengthIn
  rw [hT.2.2.2.1, e2]
  simp (disch := omega) only [if_pos, if_neg, ite_true, ite_false, not_true_eq_false, Bool.false_eq_true, not_false_eq_true, eq_self, obs, ob1, ob2, obx, opx, li_0, li_1, li_2, li_3, li_4, li_5, li_6, li_7, li_8, li_9, li_10, li_14, li_16, li_20, li_21, li_24, li_25, li_32, li_44, li_48, li_57, li_60, li_64, li_81, li_84, li_99, li_100, li_101, li_108, li_111, li_115, li_116, li_120, li_140, li_255, li_500, li_999, li_1000, li_1092, li_1176, li_10000, li_100000, li_1000000, li_N, li_M, nI_add, pk_mul, pk_sub, pk_div, pk_rem, k_mod, nI_clamp, nI_leI, nI_ltI, nI_eq, qin_nI, nI_m1, nN_lt, nN_lt2, nN_le, nN_le2, nN_eq, nN_eq2, qin_nN, Option.some.injEq, Prod.mk.injEq, Sum.inl.injEq, hT2.2.2.1, c_lf2 (o := 107) he (by omega) hD hW16 w2 (by omega : T 0 2 < 9)]
abbrev pW : List Nat := [13, 14, 15, 16, 17, 107, 108, 109, 110]
theorem c_lw {S : qSt} {n s : Nat} {e : Gr} {T : Tn} {D : Nat → Nat} (hT : isT S 8 T) (hv : vT T) (hs : s < T 0 1) (hG : isG e T s) (hD : gD 100 e (T 0 3) D) (hn : 100 ≤ n) : ∃ S2, F7_lengthWithout n (nI s) S = some (lenI (D (T 0 2)), S2) ∧ kp pW S S2 := by
  have h20 := hv.2.2.1
  obtain ⟨S1, e1, t1, k1⟩ := c_cp (o := 13) (n := n) hT hv (by omega) (by omega) hn
  obtain ⟨S2, e2, t2, k2⟩ := c_shut_y (b := 1) t1 hv (by omega) hs (by omega)
  have hv2 := vK_shut (s := s) hv (Nat.le_refl 1)
  have q2 : tU T 4 s 1 0 2 = T 0 2 := by simp (disch := omega) only [qup_e, if_pos, if_neg, ite_true, ite_false, eq_self, and_self, true_and, and_true, tU]
  have q3 : tU T 4 s 1 0 3 = T 0 3 := by simp (disch := omega) only [qup_e, if_pos, if_neg, ite_true, ite_false, eq_self, and_self, true_and, and_true, tU]
  have q1 : tU T 4 s 1 0 1 = T 0 1 := by simp (disch := omega) only [qup_e, if_pos, if_neg, ite_true, ite_false, eq_self, and_self, true_and, and_true, tU]
  obtain ⟨S3, e3, k3⟩ := c_bl (n := n) t2 (Or.inl (by omega)) hv2 (by omega) (isG_shut (by omega) hG) (by rw [q1]; omega) (by rw [q3]; exact hD) hn
  rw [q2] at e3
  refine ⟨S3, ?_, kp_tr (kp_tr (R := pW) k1 k2 (by simp) (by simp)) k3 (fun _ h => h) (by simp)⟩
  unfold F7_lengthWithout
  simp (disch := omega) only [if_pos, if_neg, ite_true, ite_false, not_true_eq_false, Bool.false_eq_true, not_false_eq_true, eq_self, obs, ob1, ob2, obx, opx, li_0, li_1, li_2, li_3, li_4, li_5, li_6, li_7, li_8, li_9, li_10, li_14, li_16, li_20, li_21, li_24, li_25, li_32, li_44, li_48, li_57, li_60, li_64, li_81, li_84, li_99, li_100, li_101, li_108, li_111, li_115, li_116, li_120, li_140, li_255, li_500, li_999, li_1000, li_1092, li_1176, li_10000, li_100000, li_1000000, li_N, li_M, nI_add, pk_mul, pk_sub, pk_div, pk_rem, k_mod, nI_clamp, nI_leI, nI_ltI, nI_eq, qin_nI, nI_m1, nN_lt, nN_lt2, nN_le, nN_le2, nN_eq, nN_eq2, qin_nN, Option.some.injEq, Prod.mk.injEq, Sum.inl.injEq, e1, e2, e3]
/-- the graph of a town, its distances and its best way -/
theorem all_ex {T : Tn} {k : Nat} (hv : vK k T) (but : Nat) : ∃ e D p kk, isG e T but ∧ gD 100 e (T 0 3) D ∧ isBest e D (T 0 2) (T 0 3) p kk ∧ gOK e ∧ kk ≤ 9 ∧ (∀ i, i < kk → p i < 9) ∧ (∀ i j, i < kk → j < kk → p i = p j → i = j) ∧ D (T 0 2) ≤ gU := by
  have h9 := hv.2.1
  have h2 := hv.2.2.2.1
  have h3 := hv.2.2.2.2.1
  obtain ⟨e, hG⟩ := isG_ex T but hv
  have he := isG_ok hv hG
  obtain ⟨D, hD⟩ := gD_ex 100 he (show T 0 3 < 9 by omega)
  obtain ⟨p, kk, hp⟩ := best_ex he hD (show T 0 2 < 9 by omega)
  obtain ⟨f1, f2, f3⟩ := best_f hD (by omega) he hp
  exact ⟨e, D, p, kk, hG, hD, hp, he, f1, f2, f3, hD.1.2.1 _ (by omega)⟩
theorem bI_N : bI 9999 = nN := by decide +kernel
theorem lenI_N {x : Nat} (h : x ≤ gU) : lenI x = nN ↔ x = gU := by
  unfold lenI
  have hU : gU = 1000000 := rfl
  by_cases q : x = gU
  · rw [if_pos q]
    exact ⟨fun _ => q, fun _ => rfl⟩
  · rw [if_neg q]
    exact ⟨fun z => (nN_ne (by omega) z).elim, fun z => absurd z q⟩
theorem m_ocl_loop {S : qSt} {n : Nat} {T : Tn} (hT : isM S 114 0 T) (hv : vT T) : ∀ j s f x, s + j = T 0 1 → j < f → x ≤ s → B8_about_88 n f (nI x) (nI s) S = some (nI (x + cc (fun s => decide (T 4 s ≠ 0)) j s), S) := by
  have h1 : S 114 1 = nI (T 0 1) := hT.2.1
  have hn := hv.2.2.1
  intro j
  induction j with
  | zero =>
    intro s f x hs hf hx
    obtain ⟨g, rfl, hg⟩ := fuel_s hf
    rw [B8_about_88]
    simp (disch := omega) only [if_pos, if_neg, ite_true, ite_false, not_true_eq_false, Bool.false_eq_true, not_false_eq_true, eq_self, obs, ob1, ob2, obx, opx, li_0, li_1, li_2, li_3, li_4, li_5, li_6, li_7, li_8, li_9, li_10, li_14, li_16, li_20, li_21, li_24, li_25, li_32, li_44, li_48, li_57, li_60, li_64, li_81, li_84, li_99, li_100, li_101, li_108, li_111, li_115, li_116, li_120, li_140, li_255, li_500, li_999, li_1000, li_1092, li_1176, li_10000, li_100000, li_1000000, li_N, li_M, nI_add, pk_mul, pk_sub, pk_div, pk_rem, k_mod, nI_clamp, nI_leI, nI_ltI, nI_eq, qin_nI, nI_m1, nN_lt, nN_lt2, nN_le, nN_le2, nN_eq, nN_eq2, qin_nN, Option.some.injEq, Prod.mk.injEq, Sum.inl.injEq, h1, cc, Nat.add_zero]
  | succ j ih =>
    intro s f x hs hf hx
    obtain ⟨g, rfl, hg⟩ := fuel_s hf
    obtain ⟨t1, t3, t4⟩ := hT.2.2.2.2 s (by omega)
    simp only [Nat.zero_add] at t4
    obtain ⟨v1, v2, v3, v4, v5⟩ := hv.2.2.2.2.2.2.1 s (by omega)
    rw [B8_about_88, cc]
    simp (disch := omega) only [if_pos, if_neg, ite_true, ite_false, not_true_eq_false, Bool.false_eq_true, not_false_eq_true, eq_self, obs, ob1, ob2, obx, opx, li_0, li_1, li_2, li_3, li_4, li_5, li_6, li_7, li_8, li_9, li_10, li_14, li_16, li_20, li_21, li_24, li_25, li_32, li_44, li_48, li_57, li_60, li_64, li_81, li_84, li_99, li_100, li_101, li_108, li_111, li_115, li_116, li_120, li_140, li_255, li_500, li_999, li_1000, li_1092, li_1176, li_10000, li_100000, li_1000000, li_N, li_M, nI_add, pk_mul, pk_sub, pk_div, pk_rem, k_mod, nI_clamp, nI_leI, nI_ltI, nI_eq, qin_nI, nI_m1, nN_lt, nN_lt2, nN_le, nN_le2, nN_eq, nN_eq2, qin_nN, Option.some.injEq, Prod.mk.injEq, Sum.inl.injEq, h1, t4]
    rw [ih (s + 1) g (x + T 4 s) (by omega) (by omega) (by omega)]
    by_cases c : T 4 s = 0
    · simp [c]
    · have : T 4 s = 1 := by omega
      simp [this, Nat.add_assoc]
theorem ix_ne {x : Int32} {c k : Nat} (h : ∀ j, j < c → x ≠ nI j) (hk : k < c) : ¬ x = nI k := h k hk
theorem rq {S : qSt} {L : Nat} {c : Nat → Nat} {T : Tn} {hc : Nat} {H : Nat → Tn} {F : Nat → Nat} {K : Nat → Tn} (h : RM S L c T hc H F K) (w : Nat) : RM (qup S 111 0 (nI w)) L c T hc H F K ∧ kM S (qup S 111 0 (nI w)) ∧ (qup S 111 0 (nI w)) 111 0 = nI w ∧ isM (qup S 111 0 (nI w)) 114 0 T := ⟨RM_q h (by omega) (by omega), kM_up kM_rfl (by omega) (by omega), qup_s .., (RM_q h (by omega) (by omega)).2.1⟩
theorem m_throw {S : qSt} (w : Nat) {f : Int32 → qSt → Option (Int32 × qSt)} (h : 0 < w) (h2 : w < 100) : (ob2 (F8_refused (nI w) S) fun r S2 => if r = 0 then f r S2 else some (0, S2)) = some (nI 0, qup S 111 0 (nI w)) := by
  rw [m_ref_w h h2]
  show (if nI 1 = 0 then f (nI 1) (qup S 111 0 (nI w)) else some (0, qup S 111 0 (nI w))) = _
  rw [if_neg (by decide +kernel)]
  rfl
theorem m_pass {S : qSt} {f g : Int32 → qSt → Option (Int32 × qSt)} : (ob2 (F8_refused (nI 0) S) fun r S2 => if r = 0 then f r S2 else g r S2) = f 0 (qup S 111 0 (nI 0)) := by
  rw [m_ref_0]
  show (if nI 0 = 0 then f (nI 0) (qup S 111 0 (nI 0)) else g (nI 0) (qup S 111 0 (nI 0))) = _
  rw [if_pos (by decide +kernel)]
  rfl
theorem kr_114 : (kd 114).2 = 84 := by decide +kernel
theorem kr_115 : (kd 115).2 = 84 := by decide +kernel
theorem kr_113 : (kd 113).2 = 84 := by decide +kernel
section QQ
variable {S : qSt} {L : Nat} {c : Nat → Nat} {T : Tn} {hc : Nat} {H : Nat → Tn} {F : Nat → Nat} {K : Nat → Tn} {n : Nat}
/-- a model's question over its ways leaves all -/
theorem m_keep {S2 : qSt} (h : RM S L c T hc H F K) (k : kp [111, 120, 121, 122] S S2) (k2 : k1 [15] S S2) : RM S2 L c T hc H F K ∧ kM S S2 ∧ S2 111 0 = S 111 0 := ⟨RM_kp h k k2 (by simp) (by decide) (by decide), kM_kp k (by simp), k2 0 (by decide)⟩
theorem m_keep2 {S2 : qSt} (h : RM S L c T hc H F K) (k : kp [120, 121] S S2) : RM S2 L c T hc H F K ∧ kM S S2 ∧ S2 111 0 = S 111 0 := ⟨RM_kp h (P := [120, 121]) (Q := []) k (k1_kp k (by decide)) (by simp) (by decide) (by decide), kM_kp k (by simp), by rw [k 111 (by decide)]⟩
theorem k_about0 (hR : RC S L c T hc H F K) (rm : RM S L c T hc H F K) (ok : OKA L c T hc H F K) (hn : 100000000 ≤ n) {x : Int32} (hx : x ≠ nI 7) : okc (CC (FL_about n x S) (F8_about n x)) := by
  obtain ⟨-, -, hv, -⟩ := id ok
  have h20 := hv.2.2.1
  have h9 := hv.2.1
  obtain ⟨e, D, p, kk, hG, hD, hp, he, f1, f2, f3, hDU⟩ := all_ex hv 9999
  have hT := hR.2.1
  unfold FL_about
  rcases ix x 8 (by omega) with ⟨j, hj, rfl⟩ | ⟨hno, hb⟩
  · have hin : ∀ S, F8_in (nI j).toInt64 0 7 S = nI 1 := fun S => by
      rw [l64_0, l64_7]
      exact in_y S (by omega) (by omega) (by omega)
    have hj7 : j ≠ 7 := fun q => hx (by rw [q])
    rcases (by omega : j = 0 ∨ j = 1 ∨ j = 2 ∨ j = 3 ∨ j = 4 ∨ j = 5 ∨ j = 6) with rfl | rfl | rfl | rfl | rfl | rfl | rfl
    · refine okc_q (r := nI (T 0 0)) rm ⟨S, ?_, hR, kC_rfl⟩ (fun S rm => ⟨qup S 111 0 (nI 0), ?_, (rq rm 0).1, (rq rm 0).2.1, (rq rm 0).2.2.1⟩) ok
      · unfold F7_about
        simp (disch := omega) only [if_pos, if_neg, ite_true, ite_false, not_true_eq_false, Bool.false_eq_true, not_false_eq_true, eq_self, obs, ob1, ob2, obx, opx, li_0, li_1, li_2, li_3, li_4, li_5, li_6, li_7, li_8, li_9, li_10, li_14, li_16, li_20, li_21, li_24, li_25, li_32, li_44, li_48, li_57, li_60, li_64, li_81, li_84, li_99, li_100, li_101, li_108, li_111, li_115, li_116, li_120, li_140, li_255, li_500, li_999, li_1000, li_1092, li_1176, li_10000, li_100000, li_1000000, li_N, li_M, nI_add, pk_mul, pk_sub, pk_div, pk_rem, k_mod, nI_clamp, nI_leI, nI_ltI, nI_eq, qin_nI, nI_m1, nN_lt, nN_lt2, nN_le, nN_le2, nN_eq, nN_eq2, qin_nN, Option.some.injEq, Prod.mk.injEq, Sum.inl.injEq, hT.1]
      · unfold F8_about B8_about_18
        simp (disch := omega) only [if_pos, if_neg, ite_true, ite_false, not_true_eq_false, Bool.false_eq_true, not_false_eq_true, eq_self, obs, ob1, ob2, obx, opx, li_0, li_1, li_2, li_3, li_4, li_5, li_6, li_7, li_8, li_9, li_10, li_14, li_16, li_20, li_21, li_24, li_25, li_32, li_44, li_48, li_57, li_60, li_64, li_81, li_84, li_99, li_100, li_101, li_108, li_111, li_115, li_116, li_120, li_140, li_255, li_500, li_999, li_1000, li_1092, li_1176, li_10000, li_100000, li_1000000, li_N, li_M, nI_add, pk_mul, pk_sub, pk_div, pk_rem, k_mod, nI_clamp, nI_leI, nI_ltI, nI_eq, qin_nI, nI_m1, nN_lt, nN_lt2, nN_le, nN_le2, nN_eq, nN_eq2, qin_nN, Option.some.injEq, Prod.mk.injEq, Sum.inl.injEq, hin, m_ref_0, (rq rm 0).2.2.2.1]
    · refine okc_q (r := nI (T 0 1)) rm ⟨S, ?_, hR, kC_rfl⟩ (fun S rm => ⟨qup S 111 0 (nI 0), ?_, (rq rm 0).1, (rq rm 0).2.1, (rq rm 0).2.2.1⟩) ok
      · unfold F7_about
        simp (disch := omega) only [if_pos, if_neg, ite_true, ite_false, not_true_eq_false, Bool.false_eq_true, not_false_eq_true, eq_self, obs, ob1, ob2, obx, opx, li_0, li_1, li_2, li_3, li_4, li_5, li_6, li_7, li_8, li_9, li_10, li_14, li_16, li_20, li_21, li_24, li_25, li_32, li_44, li_48, li_57, li_60, li_64, li_81, li_84, li_99, li_100, li_101, li_108, li_111, li_115, li_116, li_120, li_140, li_255, li_500, li_999, li_1000, li_1092, li_1176, li_10000, li_100000, li_1000000, li_N, li_M, nI_add, pk_mul, pk_sub, pk_div, pk_rem, k_mod, nI_clamp, nI_leI, nI_ltI, nI_eq, qin_nI, nI_m1, nN_lt, nN_lt2, nN_le, nN_le2, nN_eq, nN_eq2, qin_nN, Option.some.injEq, Prod.mk.injEq, Sum.inl.injEq, hT.2.1]
      · have q : (qup S 111 0 (nI 0)) 114 1 = nI (T 0 1) := (rq rm 0).2.2.2.2.1
        unfold F8_about B8_about_18
        simp (disch := omega) only [if_pos, if_neg, ite_true, ite_false, not_true_eq_false, Bool.false_eq_true, not_false_eq_true, eq_self, obs, ob1, ob2, obx, opx, li_0, li_1, li_2, li_3, li_4, li_5, li_6, li_7, li_8, li_9, li_10, li_14, li_16, li_20, li_21, li_24, li_25, li_32, li_44, li_48, li_57, li_60, li_64, li_81, li_84, li_99, li_100, li_101, li_108, li_111, li_115, li_116, li_120, li_140, li_255, li_500, li_999, li_1000, li_1092, li_1176, li_10000, li_100000, li_1000000, li_N, li_M, nI_add, pk_mul, pk_sub, pk_div, pk_rem, k_mod, nI_clamp, nI_leI, nI_ltI, nI_eq, qin_nI, nI_m1, nN_lt, nN_lt2, nN_le, nN_le2, nN_eq, nN_eq2, qin_nN, Option.some.injEq, Prod.mk.injEq, Sum.inl.injEq, hin, m_ref_0, q]
    · refine okc_q (r := nI (cc (fun s => decide (T 4 s ≠ 0)) (T 0 1) 0)) rm ⟨S, ?_, hR, kC_rfl⟩ (fun S rm => ⟨qup S 111 0 (nI 0), ?_, (rq rm 0).1, (rq rm 0).2.1, (rq rm 0).2.2.1⟩) ok
      · unfold F7_about
        simp (disch := omega) only [if_pos, if_neg, ite_true, ite_false, not_true_eq_false, Bool.false_eq_true, not_false_eq_true, eq_self, obs, ob1, ob2, obx, opx, li_0, li_1, li_2, li_3, li_4, li_5, li_6, li_7, li_8, li_9, li_10, li_14, li_16, li_20, li_21, li_24, li_25, li_32, li_44, li_48, li_57, li_60, li_64, li_81, li_84, li_99, li_100, li_101, li_108, li_111, li_115, li_116, li_120, li_140, li_255, li_500, li_999, li_1000, li_1092, li_1176, li_10000, li_100000, li_1000000, li_N, li_M, nI_add, pk_mul, pk_sub, pk_div, pk_rem, k_mod, nI_clamp, nI_leI, nI_ltI, nI_eq, qin_nI, nI_m1, nN_lt, nN_lt2, nN_le, nN_le2, nN_eq, nN_eq2, qin_nN, Option.some.injEq, Prod.mk.injEq, Sum.inl.injEq, c_cl (n := n) hT hv (by omega) (by omega)]
      · have q := m_ocl_loop (n := n) (rq rm 0).2.2.2 hv (T 0 1) 0 n 0 (by omega) (by omega) (by omega)
        rw [Nat.zero_add] at q
        unfold F8_about B8_about_18
        simp (disch := omega) only [if_pos, if_neg, ite_true, ite_false, not_true_eq_false, Bool.false_eq_true, not_false_eq_true, eq_self, obs, ob1, ob2, obx, opx, li_0, li_1, li_2, li_3, li_4, li_5, li_6, li_7, li_8, li_9, li_10, li_14, li_16, li_20, li_21, li_24, li_25, li_32, li_44, li_48, li_57, li_60, li_64, li_81, li_84, li_99, li_100, li_101, li_108, li_111, li_115, li_116, li_120, li_140, li_255, li_500, li_999, li_1000, li_1092, li_1176, li_10000, li_100000, li_1000000, li_N, li_M, nI_add, pk_mul, pk_sub, pk_div, pk_rem, k_mod, nI_clamp, nI_leI, nI_ltI, nI_eq, qin_nI, nI_m1, nN_lt, nN_lt2, nN_le, nN_le2, nN_eq, nN_eq2, qin_nN, Option.some.injEq, Prod.mk.injEq, Sum.inl.injEq, hin, m_ref_0, q]
    · refine okc_q (r := nI (T 0 2)) rm ⟨S, ?_, hR, kC_rfl⟩ (fun S rm => ⟨qup S 111 0 (nI 0), ?_, (rq rm 0).1, (rq rm 0).2.1, (rq rm 0).2.2.1⟩) ok
      · unfold F7_about
        simp (disch := omega) only [if_pos, if_neg, ite_true, ite_false, not_true_eq_false, Bool.false_eq_true, not_false_eq_true, eq_self, obs, ob1, ob2, obx, opx, li_0, li_1, li_2, li_3, li_4, li_5, li_6, li_7, li_8, li_9, li_10, li_14, li_16, li_20, li_21, li_24, li_25, li_32, li_44, li_48, li_57, li_60, li_64, li_81, li_84, li_99, li_100, li_101, li_108, li_111, li_115, li_116, li_120, li_140, li_255, li_500, li_999, li_1000, li_1092, li_1176, li_10000, li_100000, li_1000000, li_N, li_M, nI_add, pk_mul, pk_sub, pk_div, pk_rem, k_mod, nI_clamp, nI_leI, nI_ltI, nI_eq, qin_nI, nI_m1, nN_lt, nN_lt2, nN_le, nN_le2, nN_eq, nN_eq2, qin_nN, Option.some.injEq, Prod.mk.injEq, Sum.inl.injEq, hT.2.2.1]
      · have q : (qup S 111 0 (nI 0)) 114 2 = nI (T 0 2) := (rq rm 0).2.2.2.2.2.1
        unfold F8_about B8_about_18
        simp (disch := omega) only [if_pos, if_neg, ite_true, ite_false, not_true_eq_false, Bool.false_eq_true, not_false_eq_true, eq_self, obs, ob1, ob2, obx, opx, li_0, li_1, li_2, li_3, li_4, li_5, li_6, li_7, li_8, li_9, li_10, li_14, li_16, li_20, li_21, li_24, li_25, li_32, li_44, li_48, li_57, li_60, li_64, li_81, li_84, li_99, li_100, li_101, li_108, li_111, li_115, li_116, li_120, li_140, li_255, li_500, li_999, li_1000, li_1092, li_1176, li_10000, li_100000, li_1000000, li_N, li_M, nI_add, pk_mul, pk_sub, pk_div, pk_rem, k_mod, nI_clamp, nI_leI, nI_ltI, nI_eq, qin_nI, nI_m1, nN_lt, nN_lt2, nN_le, nN_le2, nN_eq, nN_eq2, qin_nN, Option.some.injEq, Prod.mk.injEq, Sum.inl.injEq, hin, m_ref_0, q]
    · refine okc_q (r := nI (T 0 3)) rm ⟨S, ?_, hR, kC_rfl⟩ (fun S rm => ⟨qup S 111 0 (nI 0), ?_, (rq rm 0).1, (rq rm 0).2.1, (rq rm 0).2.2.1⟩) ok
      · unfold F7_about
        simp (disch := omega) only [if_pos, if_neg, ite_true, ite_false, not_true_eq_false, Bool.false_eq_true, not_false_eq_true, eq_self, obs, ob1, ob2, obx, opx, li_0, li_1, li_2, li_3, li_4, li_5, li_6, li_7, li_8, li_9, li_10, li_14, li_16, li_20, li_21, li_24, li_25, li_32, li_44, li_48, li_57, li_60, li_64, li_81, li_84, li_99, li_100, li_101, li_108, li_111, li_115, li_116, li_120, li_140, li_255, li_500, li_999, li_1000, li_1092, li_1176, li_10000, li_100000, li_1000000, li_N, li_M, nI_add, pk_mul, pk_sub, pk_div, pk_rem, k_mod, nI_clamp, nI_leI, nI_ltI, nI_eq, qin_nI, nI_m1, nN_lt, nN_lt2, nN_le, nN_le2, nN_eq, nN_eq2, qin_nN, Option.some.injEq, Prod.mk.injEq, Sum.inl.injEq, hT.2.2.2.1]
      · have q : (qup S 111 0 (nI 0)) 114 3 = nI (T 0 3) := (rq rm 0).2.2.2.2.2.2.1
        unfold F8_about B8_about_18
        simp (disch := omega) only [if_pos, if_neg, ite_true, ite_false, not_true_eq_false, Bool.false_eq_true, not_false_eq_true, eq_self, obs, ob1, ob2, obx, opx, li_0, li_1, li_2, li_3, li_4, li_5, li_6, li_7, li_8, li_9, li_10, li_14, li_16, li_20, li_21, li_24, li_25, li_32, li_44, li_48, li_57, li_60, li_64, li_81, li_84, li_99, li_100, li_101, li_108, li_111, li_115, li_116, li_120, li_140, li_255, li_500, li_999, li_1000, li_1092, li_1176, li_10000, li_100000, li_1000000, li_N, li_M, nI_add, pk_mul, pk_sub, pk_div, pk_rem, k_mod, nI_clamp, nI_leI, nI_ltI, nI_eq, qin_nI, nI_m1, nN_lt, nN_lt2, nN_le, nN_le2, nN_eq, nN_eq2, qin_nN, Option.some.injEq, Prod.mk.injEq, Sum.inl.injEq, hin, m_ref_0, q]
    · refine okc_q (r := lenI (D (T 0 2))) rm ?_ (fun S rm => ?_) ok
      · obtain ⟨S2, e2, k2⟩ := c_bl (n := n) hT (Or.inl (by omega)) hv (by omega) hG (by omega) hD (by omega)
        refine ⟨S2, ?_, RC_kp hR k2 (by simp), kC_kp k2 (by simp)⟩
        unfold F7_about
        simp (disch := omega) only [if_pos, if_neg, ite_true, ite_false, not_true_eq_false, Bool.false_eq_true, not_false_eq_true, eq_self, obs, ob1, ob2, obx, opx, li_0, li_1, li_2, li_3, li_4, li_5, li_6, li_7, li_8, li_9, li_10, li_14, li_16, li_20, li_21, li_24, li_25, li_32, li_44, li_48, li_57, li_60, li_64, li_81, li_84, li_99, li_100, li_101, li_108, li_111, li_115, li_116, li_120, li_140, li_255, li_500, li_999, li_1000, li_1092, li_1176, li_10000, li_100000, li_1000000, li_N, li_M, nI_add, pk_mul, pk_sub, pk_div, pk_rem, k_mod, nI_clamp, nI_leI, nI_ltI, nI_eq, qin_nI, nI_m1, nN_lt, nN_lt2, nN_le, nN_le2, nN_eq, nN_eq2, qin_nN, Option.some.injEq, Prod.mk.injEq, Sum.inl.injEq, e2]
      · obtain ⟨r1, r2, r3, r4⟩ := rq rm 0
        obtain ⟨S2, e2, k2, -, -⟩ := m_bb (n := n) kr_114 (by omega) r4 hv hG hD hn
        obtain ⟨g1, g2, g3⟩ := m_keep2 r1 k2
        rw [bI_N] at e2
        refine ⟨S2, ?_, g1, kM_tr r2 g2, g3.trans r3⟩
        unfold F8_about B8_about_18
        simp (disch := omega) only [if_pos, if_neg, ite_true, ite_false, not_true_eq_false, Bool.false_eq_true, not_false_eq_true, eq_self, obs, ob1, ob2, obx, opx, li_0, li_1, li_2, li_3, li_4, li_5, li_6, li_7, li_8, li_9, li_10, li_14, li_16, li_20, li_21, li_24, li_25, li_32, li_44, li_48, li_57, li_60, li_64, li_81, li_84, li_99, li_100, li_101, li_108, li_111, li_115, li_116, li_120, li_140, li_255, li_500, li_999, li_1000, li_1092, li_1176, li_10000, li_100000, li_1000000, li_N, li_M, nI_add, pk_mul, pk_sub, pk_div, pk_rem, k_mod, nI_clamp, nI_leI, nI_ltI, nI_eq, qin_nI, nI_m1, nN_lt, nN_lt2, nN_le, nN_le2, nN_eq, nN_eq2, qin_nN, Option.some.injEq, Prod.mk.injEq, Sum.inl.injEq, hin, m_ref_0, e2]
    · refine okc_q (r := if kk = 0 then nN else nI (kk - 1)) rm ?_ (fun S rm => ?_) ok
      · obtain ⟨S2, e2, k2, r2⟩ := c_find (o := 103) (n := n) hT (Or.inl (by omega)) hv (by omega) hG (by omega) hD hp (by omega)
        refine ⟨S2, ?_, RC_kp hR k2 (by simp), kC_kp k2 (by simp)⟩
        unfold F7_about
        simp (disch := omega) only [if_pos, if_neg, ite_true, ite_false, not_true_eq_false, Bool.false_eq_true, not_false_eq_true, eq_self, obs, ob1, ob2, obx, opx, li_0, li_1, li_2, li_3, li_4, li_5, li_6, li_7, li_8, li_9, li_10, li_14, li_16, li_20, li_21, li_24, li_25, li_32, li_44, li_48, li_57, li_60, li_64, li_81, li_84, li_99, li_100, li_101, li_108, li_111, li_115, li_116, li_120, li_140, li_255, li_500, li_999, li_1000, li_1092, li_1176, li_10000, li_100000, li_1000000, li_N, li_M, nI_add, pk_mul, pk_sub, pk_div, pk_rem, k_mod, nI_clamp, nI_leI, nI_ltI, nI_eq, qin_nI, nI_m1, nN_lt, nN_lt2, nN_le, nN_le2, nN_eq, nN_eq2, qin_nN, Option.some.injEq, Prod.mk.injEq, Sum.inl.injEq, e2, c_sts r2 f1]
      · obtain ⟨r1, r2, r3, r4⟩ := rq rm 0
        obtain ⟨S2, e2, k2, k3, rr, -⟩ := m_lw (n := n) kr_114 (by omega) r4 hv hG hD hp hn
        obtain ⟨g1, g2, g3⟩ := m_keep r1 k2 k3
        rw [bI_N] at e2
        refine ⟨S2, ?_, g1, kM_tr r2 g2, g3.trans r3⟩
        unfold F8_about B8_about_18
        simp (disch := omega) only [if_pos, if_neg, ite_true, ite_false, not_true_eq_false, Bool.false_eq_true, not_false_eq_true, eq_self, obs, ob1, ob2, obx, opx, li_0, li_1, li_2, li_3, li_4, li_5, li_6, li_7, li_8, li_9, li_10, li_14, li_16, li_20, li_21, li_24, li_25, li_32, li_44, li_48, li_57, li_60, li_64, li_81, li_84, li_99, li_100, li_101, li_108, li_111, li_115, li_116, li_120, li_140, li_255, li_500, li_999, li_1000, li_1092, li_1176, li_10000, li_100000, li_1000000, li_N, li_M, nI_add, pk_mul, pk_sub, pk_div, pk_rem, k_mod, nI_clamp, nI_leI, nI_ltI, nI_eq, qin_nI, nI_m1, nN_lt, nN_lt2, nN_le, nN_le2, nN_eq, nN_eq2, qin_nN, Option.some.injEq, Prod.mk.injEq, Sum.inl.injEq, hin, m_ref_0, e2, rr.1]
        rcases hp with ⟨q1, q2⟩ | ⟨q1, q2, q3, -⟩
        · rw [if_pos q2]
          simp (disch := omega) only [if_pos, if_neg, ite_true, ite_false, not_true_eq_false, Bool.false_eq_true, not_false_eq_true, eq_self, obs, ob1, ob2, obx, opx, li_0, li_1, li_2, li_3, li_4, li_5, li_6, li_7, li_8, li_9, li_10, li_14, li_16, li_20, li_21, li_24, li_25, li_32, li_44, li_48, li_57, li_60, li_64, li_81, li_84, li_99, li_100, li_101, li_108, li_111, li_115, li_116, li_120, li_140, li_255, li_500, li_999, li_1000, li_1092, li_1176, li_10000, li_100000, li_1000000, li_N, li_M, nI_add, pk_mul, pk_sub, pk_div, pk_rem, k_mod, nI_clamp, nI_leI, nI_ltI, nI_eq, qin_nI, nI_m1, nN_lt, nN_lt2, nN_le, nN_le2, nN_eq, nN_eq2, qin_nN, Option.some.injEq, Prod.mk.injEq, Sum.inl.injEq, (lenI_N hDU).mpr q1]
        · rw [if_pos (fun z => q1 ((lenI_N hDU).mp z)), if_neg (by omega)]
          simp (disch := omega) only [if_pos, if_neg, ite_true, ite_false, not_true_eq_false, Bool.false_eq_true, not_false_eq_true, eq_self, obs, ob1, ob2, obx, opx, li_0, li_1, li_2, li_3, li_4, li_5, li_6, li_7, li_8, li_9, li_10, li_14, li_16, li_20, li_21, li_24, li_25, li_32, li_44, li_48, li_57, li_60, li_64, li_81, li_84, li_99, li_100, li_101, li_108, li_111, li_115, li_116, li_120, li_140, li_255, li_500, li_999, li_1000, li_1092, li_1176, li_10000, li_100000, li_1000000, li_N, li_M, nI_add, pk_mul, pk_sub, pk_div, pk_rem, k_mod, nI_clamp, nI_leI, nI_ltI, nI_eq, qin_nI, nI_m1, nN_lt, nN_lt2, nN_le, nN_le2, nN_eq, nN_eq2, qin_nN, Option.some.injEq, Prod.mk.injEq, Sum.inl.injEq]
  · refine okc_x (w := 1) (k := 0) rm ⟨S, ?_, hR, kC_rfl⟩ (fun S => by simp (disch := omega) only [if_pos, if_neg, ite_true, ite_false, not_true_eq_false, Bool.false_eq_true, not_false_eq_true, eq_self, obs, ob1, ob2, obx, opx, li_0, li_1, li_2, li_3, li_4, li_5, li_6, li_7, li_8, li_9, li_10, li_14, li_16, li_20, li_21, li_24, li_25, li_32, li_44, li_48, li_57, li_60, li_64, li_81, li_84, li_99, li_100, li_101, li_108, li_111, li_115, li_116, li_120, li_140, li_255, li_500, li_999, li_1000, li_1092, li_1176, li_10000, li_100000, li_1000000, li_N, li_M, nI_add, pk_mul, pk_sub, pk_div, pk_rem, k_mod, nI_clamp, nI_leI, nI_ltI, nI_eq, qin_nI, nI_m1, nN_lt, nN_lt2, nN_le, nN_le2, nN_eq, nN_eq2, qin_nN, Option.some.injEq, Prod.mk.injEq, Sum.inl.injEq]) (by omega) (by omega) (fun S rm => ⟨nI 0, qup S 111 0 (nI 1), ?_, RM_q rm (by omega) (by omega), kM_up kM_rfl (by omega) (by omega), qup_s ..⟩) ok
    · unfold F7_about
      simp (disch := omega) only [if_pos, if_neg, ite_true, ite_false, not_true_eq_false, Bool.false_eq_true, not_false_eq_true, eq_self, obs, ob1, ob2, obx, opx, li_0, li_1, li_2, li_3, li_4, li_5, li_6, li_7, li_8, li_9, li_10, li_14, li_16, li_20, li_21, li_24, li_25, li_32, li_44, li_48, li_57, li_60, li_64, li_81, li_84, li_99, li_100, li_101, li_108, li_111, li_115, li_116, li_120, li_140, li_255, li_500, li_999, li_1000, li_1092, li_1176, li_10000, li_100000, li_1000000, li_N, li_M, nI_add, pk_mul, pk_sub, pk_div, pk_rem, k_mod, nI_clamp, nI_leI, nI_ltI, nI_eq, qin_nI, nI_m1, nN_lt, nN_lt2, nN_le, nN_le2, nN_eq, nN_eq2, qin_nN, Option.some.injEq, Prod.mk.injEq, Sum.inl.injEq, hno]
    · unfold F8_about B8_about_18
      rw [l64_0, l64_7, in_n S (fun j _ h2 => hno j (by omega)) (by omega) (by omega)]
      simp (disch := omega) only [if_pos, if_neg, ite_true, ite_false, not_true_eq_false, Bool.false_eq_true, not_false_eq_true, eq_self, obs, ob1, ob2, obx, opx, li_0, li_1, li_2, li_3, li_4, li_5, li_6, li_7, li_8, li_9, li_10, li_14, li_16, li_20, li_21, li_24, li_25, li_32, li_44, li_48, li_57, li_60, li_64, li_81, li_84, li_99, li_100, li_101, li_108, li_111, li_115, li_116, li_120, li_140, li_255, li_500, li_999, li_1000, li_1092, li_1176, li_10000, li_100000, li_1000000, li_N, li_M, nI_add, pk_mul, pk_sub, pk_div, pk_rem, k_mod, nI_clamp, nI_leI, nI_ltI, nI_eq, qin_nI, nI_m1, nN_lt, nN_lt2, nN_le, nN_le2, nN_eq, nN_eq2, qin_nN, Option.some.injEq, Prod.mk.injEq, Sum.inl.injEq, m_ref_w]
end QQ
