/-! UNDO, SAVE, RESTORE -/
section QSL
variable {S : qSt} {L : Nat} {c : Nat → Nat} {T : Tn} {hc : Nat} {H : Nat → Tn} {F : Nat → Nat} {K : Nat → Tn} {n : Nat}
theorem k_undo (h : Rel S) (hn : 100000000 ≤ n) : okc (CC (FL_undo n S) (F8_undo n)) := by
  obtain ⟨L, c, T, hc, H, F, K, hR, rm, ok⟩ := h
  obtain ⟨x1, x2, x3, x4, x5⟩ := kx_114
  obtain ⟨h1, h2, ⟨old, h3, h4, h5, h6⟩, h7⟩ := id hR
  obtain ⟨o1, o2, o3, o4, o5, o6⟩ := id ok
  unfold FL_undo
  by_cases q : hc = 0
  · refine okc_e (k := 1) (w := 1) hR rm ok ?_ (fun S => by simp (disch := omega) only [if_pos, if_neg, ite_true, ite_false, not_true_eq_false, Bool.false_eq_true, not_false_eq_true, eq_self, obs, ob1, ob2, obx, opx, li_0, li_1, li_2, li_3, li_4, li_5, li_6, li_7, li_8, li_9, li_10, li_14, li_16, li_20, li_21, li_24, li_25, li_32, li_44, li_48, li_57, li_60, li_64, li_81, li_84, li_99, li_100, li_101, li_108, li_111, li_115, li_116, li_120, li_140, li_255, li_500, li_999, li_1000, li_1092, li_1176, li_10000, li_100000, li_1000000, li_N, li_M, nI_add, pk_mul, pk_sub, pk_div, pk_rem, k_mod, nI_clamp, nI_leI, nI_ltI, nI_eq, qin_nI, nI_m1, nN_lt, nN_lt2, nN_le, nN_le2, nN_eq, nN_eq2, qin_nN, Option.some.injEq, Prod.mk.injEq, Sum.inl.injEq]) (by omega) (by omega) (fun S rm => ?_)
    · unfold F7_undo
      simp (disch := omega) only [if_pos, if_neg, ite_true, ite_false, not_true_eq_false, Bool.false_eq_true, not_false_eq_true, eq_self, obs, ob1, ob2, obx, opx, li_0, li_1, li_2, li_3, li_4, li_5, li_6, li_7, li_8, li_9, li_10, li_14, li_16, li_20, li_21, li_24, li_25, li_32, li_44, li_48, li_57, li_60, li_64, li_81, li_84, li_99, li_100, li_101, li_108, li_111, li_115, li_116, li_120, li_140, li_255, li_500, li_999, li_1000, li_1092, li_1176, li_10000, li_100000, li_1000000, li_N, li_M, nI_add, pk_mul, pk_sub, pk_div, pk_rem, k_mod, nI_clamp, nI_leI, nI_ltI, nI_eq, qin_nI, nI_m1, nN_lt, nN_lt2, nN_le, nN_le2, nN_eq, nN_eq2, qin_nN, Option.some.injEq, Prod.mk.injEq, Sum.inl.injEq, h5, q]
    · have z : S 111 8 = nI hc := rm.2.2.1.1
      unfold F8_undo
      simp (disch := omega) only [if_pos, if_neg, ite_true, ite_false, not_true_eq_false, Bool.false_eq_true, not_false_eq_true, eq_self, obs, ob1, ob2, obx, opx, li_0, li_1, li_2, li_3, li_4, li_5, li_6, li_7, li_8, li_9, li_10, li_14, li_16, li_20, li_21, li_24, li_25, li_32, li_44, li_48, li_57, li_60, li_64, li_81, li_84, li_99, li_100, li_101, li_108, li_111, li_115, li_116, li_120, li_140, li_255, li_500, li_999, li_1000, li_1092, li_1176, li_10000, li_100000, li_1000000, li_N, li_M, nI_add, pk_mul, pk_sub, pk_div, pk_rem, k_mod, nI_clamp, nI_leI, nI_ltI, nI_eq, qin_nI, nI_m1, nN_lt, nN_lt2, nN_le, nN_le2, nN_eq, nN_eq2, qin_nN, Option.some.injEq, Prod.mk.injEq, Sum.inl.injEq, z, q]
      exact m_throw 1 (by omega) (by omega)
  · have hv2 := o5 (hc - 1) (by omega)
    have hm : (old + (hc - 1)) % 14 < 14 := Nat.mod_lt _ (by omega)
    have t0 : isT (qup S 18 2 (nI (hc - 1))) (20 + 5 * ((old + (hc - 1)) % 14)) (H (hc - 1)) := isT_cg (h6 (hc - 1) (by omega)) (fun x a b => qup_o _ _ _ (by omega))
    obtain ⟨S2, e2, t2, k2⟩ := c_cp (o := 8) (n := n) t0 hv2 (by omega) (by omega) (by omega)
    have kx : ∀ x, x < 8 ∨ 12 < x → S2 x = qup S 18 2 (nI (hc - 1)) x := fun x hx => k2 x (by simp only [List.mem_cons, List.not_mem_nil, or_false]; omega)
    refine okc_r (r := nI (hc - 1)) (L2 := L) (c2 := c) (T2 := H (hc - 1)) (hc2 := hc - 1) (H2 := H) (F2 := F) (K2 := K) rm ⟨S2, ?_, ?_, ?_⟩ (fun S rm => ?_) ⟨o1, o2, hv2, by omega, fun i hi => o5 i (by omega), o6⟩
    · have z : S2 18 2 = nI (hc - 1) := by rw [kx 18 (by omega), qup_s]
      unfold F7_undo F0_takeBack
      rw [show (19 + 1 : Nat) = 20 from rfl]
      simp (disch := omega) only [if_pos, if_neg, ite_true, ite_false, not_true_eq_false, Bool.false_eq_true, not_false_eq_true, eq_self, obs, ob1, ob2, obx, opx, li_0, li_1, li_2, li_3, li_4, li_5, li_6, li_7, li_8, li_9, li_10, li_14, li_16, li_20, li_21, li_24, li_25, li_32, li_44, li_48, li_57, li_60, li_64, li_81, li_84, li_99, li_100, li_101, li_108, li_111, li_115, li_116, li_120, li_140, li_255, li_500, li_999, li_1000, li_1092, li_1176, li_10000, li_100000, li_1000000, li_N, li_M, nI_add, pk_mul, pk_sub, pk_div, pk_rem, k_mod, nI_clamp, nI_leI, nI_ltI, nI_eq, qin_nI, nI_m1, nN_lt, nN_lt2, nN_le, nN_le2, nN_eq, nN_eq2, qin_nN, Option.some.injEq, Prod.mk.injEq, Sum.inl.injEq, h5, h4, qup_s, qup_k, e2, z]
    · have g : RC (qup S 18 2 (nI (hc - 1))) L c T (hc - 1) H F K := by
        refine ⟨?_, isT_cg h2 (fun x a b => qup_o _ _ _ (by omega)), ⟨old, h3, ?_, qup_s .., fun i hi => ?_⟩, fun j hj => ?_⟩
        · rw [qup_o _ _ _ (by omega), qup_o _ _ _ (by omega)]
          exact h1
        · rw [qup_k _ _ _ (by omega)]
          exact h4
        · have : (old + i) % 14 < 14 := Nat.mod_lt _ (by omega)
          exact isT_cg (h6 i (by omega)) (fun x a b => qup_o _ _ _ (by omega))
        · rw [qup_o _ _ _ (by omega)]
          exact ⟨(h7 j hj).1, fun hf => isT_cg ((h7 j hj).2 hf) (fun x a b => qup_o _ _ _ (by omega))⟩
      exact RC_town g (fun x hx => kx x (by omega)) t2
    · exact kC_tr (kC_up kC_rfl (by omega)) (kC_kp k2 (by simp))
    · obtain ⟨m1, m2, ⟨m3, m4⟩, m5, m6⟩ := id rm
      have t1 : isM (qup (qup S 111 0 (nI 0)) 111 8 (nI (hc - 1))) 116 (84 * (hc - 1)) (H (hc - 1)) := isM_cg (m4 (hc - 1) (by omega)) (by rw [qup_o _ _ _ (by omega), qup_o _ _ _ (by omega)])
      obtain ⟨S3, f1, f2, f3, -⟩ := m_ct (n := n) (a := 116) (c := 114) (x := 84 * (hc - 1)) (y := 0) (by omega) (by omega) (by omega) (by omega) (by omega) t1 hv2.2.2.1 (by omega)
      have k3 : kp [111, 114] S S3 := kp_tr (kp_up (kp_up (P := [111]) kp_rfl (by simp)) (by simp)) f3 (by simp) (by simp)
      have z8 : S3 111 = (qup (qup S 111 0 (nI 0)) 111 8 (nI (hc - 1))) 111 := f3 111 (by decide)
      refine ⟨S3, ?_, ⟨?_, f2, ⟨?_, fun i hi => isM_cg (m4 i (by omega)) (k3 116 (by decide))⟩, ?_, ?_⟩, kM_kp k3 (by simp), ?_⟩
      · have z : S 111 8 = nI hc := m3
        unfold F8_undo B8_undo_13
        simp (disch := omega) only [if_pos, if_neg, ite_true, ite_false, not_true_eq_false, Bool.false_eq_true, not_false_eq_true, eq_self, obs, ob1, ob2, obx, opx, li_0, li_1, li_2, li_3, li_4, li_5, li_6, li_7, li_8, li_9, li_10, li_14, li_16, li_20, li_21, li_24, li_25, li_32, li_44, li_48, li_57, li_60, li_64, li_81, li_84, li_99, li_100, li_101, li_108, li_111, li_115, li_116, li_120, li_140, li_255, li_500, li_999, li_1000, li_1092, li_1176, li_10000, li_100000, li_1000000, li_N, li_M, nI_add, pk_mul, pk_sub, pk_div, pk_rem, k_mod, nI_clamp, nI_leI, nI_ltI, nI_eq, qin_nI, nI_m1, nN_lt, nN_lt2, nN_le, nN_le2, nN_eq, nN_eq2, qin_nN, Option.some.injEq, Prod.mk.injEq, Sum.inl.injEq, z, m_ref_0, qup_k, qup_s, f1, z8]
      · rw [z8, qup_k _ _ _ (by omega), qup_k _ _ _ (by omega), k3 112 (by decide)]
        exact m1
      · rw [z8, qup_s]
      · rw [k3 118 (by decide)]
        exact fun j hj => ⟨(m5 j hj).1, fun hf => isM_cg ((m5 j hj).2 hf) (k3 117 (by decide))⟩
      · rw [k3 119 (by decide)]
        exact m6
      · rw [z8, qup_k _ _ _ (by omega), qup_s]
def fPut (F : Nat → Nat) (s v : Nat) : Nat → Nat := fun j => if j = s then v else F j
def kPut (K : Nat → Tn) (s : Nat) (T : Tn) : Nat → Tn := fun j => if j = s then T else K j
theorem c_slot_y {s : Nat} (hs : s < 2) : F7_requireSlot (nI s) S = some (.inl 0, S) := by
  unfold F7_requireSlot
  simp (disch := omega) only [if_pos, if_neg, ite_true, ite_false, not_true_eq_false, Bool.false_eq_true, not_false_eq_true, eq_self, obs, ob1, ob2, obx, opx, li_0, li_1, li_2, li_3, li_4, li_5, li_6, li_7, li_8, li_9, li_10, li_14, li_16, li_20, li_21, li_24, li_25, li_32, li_44, li_48, li_57, li_60, li_64, li_81, li_84, li_99, li_100, li_101, li_108, li_111, li_115, li_116, li_120, li_140, li_255, li_500, li_999, li_1000, li_1092, li_1176, li_10000, li_100000, li_1000000, li_N, li_M, nI_add, pk_mul, pk_sub, pk_div, pk_rem, k_mod, nI_clamp, nI_leI, nI_ltI, nI_eq, qin_nI, nI_m1, nN_lt, nN_lt2, nN_le, nN_le2, nN_eq, nN_eq2, qin_nN, Option.some.injEq, Prod.mk.injEq, Sum.inl.injEq]
theorem c_slot_n {x : Int32} (hs : ∀ s, s < 2 → x ≠ nI s) : F7_requireSlot x S = some (.inr 2, S) := by
  unfold F7_requireSlot B7_requireSlot_9
  rcases ix x 2 (by omega) with ⟨j, hj, rfl⟩ | ⟨-, h | h⟩
  · exact absurd rfl (hs j hj)
  · rw [if_pos h]
  · by_cases z : x < 0
    · rw [if_pos z]
    · rw [if_neg z, if_neg]
      intro w
      rw [Int32.lt_iff_toInt_lt] at w
      rw [Int32.le_iff_toInt_le] at h
      have e1 : (2 : Int32).toInt = 2 := rfl
      have e2 : (nI 2).toInt = 2 := rfl
      omega
theorem k_save (h : Rel S) (hn : 100000000 ≤ n) (x : Int32) : okc (CC (FL_save n x S) (F8_save n x)) := by
  obtain ⟨L, c, T, hc, H, F, K, hR, rm, ok⟩ := h
  obtain ⟨x1, x2, x3, x4, x5⟩ := kx_114
  obtain ⟨h1, h2, ⟨old, h3, h4, h5, h6⟩, h7⟩ := id hR
  obtain ⟨o1, o2, hv, o4, o5, o6⟩ := id ok
  unfold FL_save
  rcases ix x 2 (by omega) with ⟨s, hs, rfl⟩ | ⟨hno, -⟩
  · obtain ⟨S1, e1, t1, k1⟩ := c_cp (o := 93 + 5 * s) (n := n) h2 hv (by omega) (by omega) (by omega)
    have kx : ∀ x, x < 93 + 5 * s ∨ 93 + 5 * s + 4 < x → S1 x = S x := fun x hx => k1 x (by
      simp only [List.mem_cons, List.not_mem_nil, or_false]
      omega)
    have gx : ∀ x, x ≠ 92 → qup S1 92 s (nI 1) x = S1 x := fun x hx => qup_o _ _ _ hx
    have t8 : isT (qup S1 92 s (nI 1)) 8 T := isT_cg h2 (fun x a b => by rw [gx x (by omega), kx x (by omega)])
    refine okc_r (r := nI (T 0 1)) (L2 := L) (c2 := c) (T2 := T) (hc2 := hc) (H2 := H) (F2 := fPut F s 1) (K2 := kPut K s T) rm ⟨qup S1 92 s (nI 1), ?_, ⟨?_, t8, ⟨old, h3, ?_, ?_, fun i hi => ?_⟩, fun j hj => ?_⟩, ?_⟩ (fun S rm => ?_) ⟨o1, o2, hv, o4, o5, fun j hj => ?_⟩
    · have z : qup S1 92 s (nI 1) 8 1 = nI (T 0 1) := t8.2.1
      unfold F7_save F3_keep
      rw [show (91 + 2 : Nat) = 93 from rfl, show ((1 : Int32) &&& 1) = nI 1 from rfl]
      simp (disch := omega) only [if_pos, if_neg, ite_true, ite_false, not_true_eq_false, Bool.false_eq_true, not_false_eq_true, eq_self, obs, ob1, ob2, obx, opx, li_0, li_1, li_2, li_3, li_4, li_5, li_6, li_7, li_8, li_9, li_10, li_14, li_16, li_20, li_21, li_24, li_25, li_32, li_44, li_48, li_57, li_60, li_64, li_81, li_84, li_99, li_100, li_101, li_108, li_111, li_115, li_116, li_120, li_140, li_255, li_500, li_999, li_1000, li_1092, li_1176, li_10000, li_100000, li_1000000, li_N, li_M, nI_add, pk_mul, pk_sub, pk_div, pk_rem, k_mod, nI_clamp, nI_leI, nI_ltI, nI_eq, qin_nI, nI_m1, nN_lt, nN_lt2, nN_le, nN_le2, nN_eq, nN_eq2, qin_nN, Option.some.injEq, Prod.mk.injEq, Sum.inl.injEq, c_slot_y hs, e1, z]
    · rw [gx 1 (by omega), gx 2 (by omega), kx 1 (by omega), kx 2 (by omega)]
      exact h1
    · rw [gx 18 (by omega), kx 18 (by omega)]
      exact h4
    · rw [gx 18 (by omega), kx 18 (by omega)]
      exact h5
    · have : (old + i) % 14 < 14 := Nat.mod_lt _ (by omega)
      exact isT_cg (h6 i hi) (fun x a b => by rw [gx x (by omega), kx x (by omega)])
    · unfold fPut kPut
      by_cases q : j = s
      · subst q
        rw [if_pos rfl, if_pos rfl, qup_s]
        exact ⟨rfl, fun _ => isT_cg t1 (fun x a b => gx x (by omega))⟩
      · rw [if_neg q, if_neg q, qup_k _ _ _ q, kx 92 (by omega)]
        exact ⟨(h7 j hj).1, fun hf => isT_cg ((h7 j hj).2 hf) (fun x a b => by rw [gx x (by omega), kx x (by omega)])⟩
    · exact kC_up (kC_kp k1 (fun x hx => by
        simp only [List.mem_cons, List.not_mem_nil, or_false] at hx
        omega)) (by omega)
    · obtain ⟨m1, m2, ⟨m3, m4⟩, m5, m6⟩ := id rm
      have t1 : isM (qup S 111 0 (nI 0)) 114 0 T := (rq rm 0).2.2.2
      obtain ⟨S3, f1, f2, f3, f4⟩ := m_ct (n := n) (a := 114) (c := 117) (x := 0) (y := 84 * s) (by omega) (by omega) (by omega) (by omega) (by omega) t1 hv.2.2.1 (by omega)
      have k3 : kp [111, 117, 118] S (qup S3 118 s (nI 1)) := kp_up (kp_tr (kp_up (P := [111]) kp_rfl (by simp)) f3 (by simp) (by simp)) (by simp)
      have z111 : (qup S3 118 s (nI 1)) 111 = (qup S 111 0 (nI 0)) 111 := by
        rw [qup_o _ _ _ (by omega)]
        exact f3 111 (by decide)
      refine ⟨qup S3 118 s (nI 1), ?_, ⟨?_, isM_cg m2 (k3 114 (by decide)), ⟨?_, fun i hi => isM_cg (m4 i hi) (k3 116 (by decide))⟩, fun j hj => ?_, ?_⟩, kM_kp k3 (by simp), ?_⟩
      · have z : (qup S3 118 s (nI 1)) 114 1 = nI (T 0 1) := by
          rw [k3 114 (by decide)]
          exact m2.2.1
        have hin : F8_in (nI s).toInt64 0 1 S = nI 1 := by
          rw [l64_0, l64_1]
          exact in_y S (by omega) (by omega) (by omega)
        unfold F8_save B8_save_16
        rw [show ((1 : Int32) &&& 1) = nI 1 from rfl]
        simp (disch := omega) only [if_pos, if_neg, ite_true, ite_false, not_true_eq_false, Bool.false_eq_true, not_false_eq_true, eq_self, obs, ob1, ob2, obx, opx, li_0, li_1, li_2, li_3, li_4, li_5, li_6, li_7, li_8, li_9, li_10, li_14, li_16, li_20, li_21, li_24, li_25, li_32, li_44, li_48, li_57, li_60, li_64, li_81, li_84, li_99, li_100, li_101, li_108, li_111, li_115, li_116, li_120, li_140, li_255, li_500, li_999, li_1000, li_1092, li_1176, li_10000, li_100000, li_1000000, li_N, li_M, nI_add, pk_mul, pk_sub, pk_div, pk_rem, k_mod, nI_clamp, nI_leI, nI_ltI, nI_eq, qin_nI, nI_m1, nN_lt, nN_lt2, nN_le, nN_le2, nN_eq, nN_eq2, qin_nN, Option.some.injEq, Prod.mk.injEq, Sum.inl.injEq, hin, m_ref_0, f1, z]
      · rw [z111, qup_k _ _ _ (by omega), k3 112 (by decide)]
        exact m1
      · rw [z111, qup_k _ _ _ (by omega)]
        exact m3
      · have z118 : S3 118 = S 118 := by
          rw [f3 118 (by decide), qup_o _ _ _ (by omega)]
        unfold fPut kPut
        by_cases q : j = s
        · subst q
          rw [if_pos rfl, if_pos rfl, qup_s]
          exact ⟨rfl, fun _ => isM_cg f2 (qup_o _ _ _ (by omega))⟩
        · rw [if_neg q, if_neg q, qup_k _ _ _ q, z118]
          refine ⟨(m5 j hj).1, fun hf => isM_cg (S := S3) ?_ (qup_o _ _ _ (by omega))⟩
          refine isM_cp ((m5 j hj).2 hf) ((o6 j hj).2 hf).2.2.1 (fun r hr => ?_)
          rw [f4 _ (by omega), qup_o _ _ _ (by omega)]
      · rw [k3 119 (by decide)]
        exact m6
      · rw [z111, qup_s]
    · unfold fPut kPut
      by_cases q : j = s
      · rw [if_pos q, if_pos q]
        exact ⟨by omega, fun _ => hv⟩
      · rw [if_neg q, if_neg q]
        exact o6 j hj
  · refine okc_e (k := 2) (w := 1) hR rm ok ?_ (fun S => by simp (disch := omega) only [if_pos, if_neg, ite_true, ite_false, not_true_eq_false, Bool.false_eq_true, not_false_eq_true, eq_self, obs, ob1, ob2, obx, opx, li_0, li_1, li_2, li_3, li_4, li_5, li_6, li_7, li_8, li_9, li_10, li_14, li_16, li_20, li_21, li_24, li_25, li_32, li_44, li_48, li_57, li_60, li_64, li_81, li_84, li_99, li_100, li_101, li_108, li_111, li_115, li_116, li_120, li_140, li_255, li_500, li_999, li_1000, li_1092, li_1176, li_10000, li_100000, li_1000000, li_N, li_M, nI_add, pk_mul, pk_sub, pk_div, pk_rem, k_mod, nI_clamp, nI_leI, nI_ltI, nI_eq, qin_nI, nI_m1, nN_lt, nN_lt2, nN_le, nN_le2, nN_eq, nN_eq2, qin_nN, Option.some.injEq, Prod.mk.injEq, Sum.inl.injEq]) (by omega) (by omega) (fun S rm => ?_)
    · unfold F7_save
      simp (disch := omega) only [if_pos, if_neg, ite_true, ite_false, not_true_eq_false, Bool.false_eq_true, not_false_eq_true, eq_self, obs, ob1, ob2, obx, opx, li_0, li_1, li_2, li_3, li_4, li_5, li_6, li_7, li_8, li_9, li_10, li_14, li_16, li_20, li_21, li_24, li_25, li_32, li_44, li_48, li_57, li_60, li_64, li_81, li_84, li_99, li_100, li_101, li_108, li_111, li_115, li_116, li_120, li_140, li_255, li_500, li_999, li_1000, li_1092, li_1176, li_10000, li_100000, li_1000000, li_N, li_M, nI_add, pk_mul, pk_sub, pk_div, pk_rem, k_mod, nI_clamp, nI_leI, nI_ltI, nI_eq, qin_nI, nI_m1, nN_lt, nN_lt2, nN_le, nN_le2, nN_eq, nN_eq2, qin_nN, Option.some.injEq, Prod.mk.injEq, Sum.inl.injEq, c_slot_n hno]
    · have hin : F8_in x.toInt64 0 1 S = nI 0 := by
        rw [l64_0, l64_1]
        exact in_n S (fun j _ h => hno j (by omega)) (by omega) (by omega)
      unfold F8_save
      simp (disch := omega) only [if_pos, if_neg, ite_true, ite_false, not_true_eq_false, Bool.false_eq_true, not_false_eq_true, eq_self, obs, ob1, ob2, obx, opx, li_0, li_1, li_2, li_3, li_4, li_5, li_6, li_7, li_8, li_9, li_10, li_14, li_16, li_20, li_21, li_24, li_25, li_32, li_44, li_48, li_57, li_60, li_64, li_81, li_84, li_99, li_100, li_101, li_108, li_111, li_115, li_116, li_120, li_140, li_255, li_500, li_999, li_1000, li_1092, li_1176, li_10000, li_100000, li_1000000, li_N, li_M, nI_add, pk_mul, pk_sub, pk_div, pk_rem, k_mod, nI_clamp, nI_leI, nI_ltI, nI_eq, qin_nI, nI_m1, nN_lt, nN_lt2, nN_le, nN_le2, nN_eq, nN_eq2, qin_nN, Option.some.injEq, Prod.mk.injEq, Sum.inl.injEq, hin]
      exact m_throw 1 (by omega) (by omega)
theorem k_restore (h : Rel S) (hn : 100000000 ≤ n) (x : Int32) : okc (CC (FL_restore n x S) (F8_restore n x)) := by
  obtain ⟨L, c, T, hc, H, F, K, hR, rm, ok⟩ := h
  obtain ⟨x1, x2, x3, x4, x5⟩ := kx_114
  obtain ⟨h1, h2, ⟨old, h3, h4, h5, h6⟩, h7⟩ := id hR
  obtain ⟨o1, o2, hv, o4, o5, o6⟩ := id ok
  unfold FL_restore
  rcases ix x 2 (by omega) with ⟨s, hs, rfl⟩ | ⟨hno, -⟩
  · have hf1 := (o6 s hs).1
    have z92 : S 92 s = nI (F s) := (h7 s hs).1
    have hin : ∀ S, F8_in (nI s).toInt64 0 1 S = nI 1 := fun S => by
      rw [l64_0, l64_1]
      exact in_y S (by omega) (by omega) (by omega)
    by_cases q : F s = 0
    · refine okc_e (k := 1) (w := 2) hR rm ok ?_ (fun S => by simp (disch := omega) only [if_pos, if_neg, ite_true, ite_false, not_true_eq_false, Bool.false_eq_true, not_false_eq_true, eq_self, obs, ob1, ob2, obx, opx, li_0, li_1, li_2, li_3, li_4, li_5, li_6, li_7, li_8, li_9, li_10, li_14, li_16, li_20, li_21, li_24, li_25, li_32, li_44, li_48, li_57, li_60, li_64, li_81, li_84, li_99, li_100, li_101, li_108, li_111, li_115, li_116, li_120, li_140, li_255, li_500, li_999, li_1000, li_1092, li_1176, li_10000, li_100000, li_1000000, li_N, li_M, nI_add, pk_mul, pk_sub, pk_div, pk_rem, k_mod, nI_clamp, nI_leI, nI_ltI, nI_eq, qin_nI, nI_m1, nN_lt, nN_lt2, nN_le, nN_le2, nN_eq, nN_eq2, qin_nN, Option.some.injEq, Prod.mk.injEq, Sum.inl.injEq]) (by omega) (by omega) (fun S rm => ?_)
      · unfold F7_restore
        simp (disch := omega) only [if_pos, if_neg, ite_true, ite_false, not_true_eq_false, Bool.false_eq_true, not_false_eq_true, eq_self, obs, ob1, ob2, obx, opx, li_0, li_1, li_2, li_3, li_4, li_5, li_6, li_7, li_8, li_9, li_10, li_14, li_16, li_20, li_21, li_24, li_25, li_32, li_44, li_48, li_57, li_60, li_64, li_81, li_84, li_99, li_100, li_101, li_108, li_111, li_115, li_116, li_120, li_140, li_255, li_500, li_999, li_1000, li_1092, li_1176, li_10000, li_100000, li_1000000, li_N, li_M, nI_add, pk_mul, pk_sub, pk_div, pk_rem, k_mod, nI_clamp, nI_leI, nI_ltI, nI_eq, qin_nI, nI_m1, nN_lt, nN_lt2, nN_le, nN_le2, nN_eq, nN_eq2, qin_nN, Option.some.injEq, Prod.mk.injEq, Sum.inl.injEq, c_slot_y hs, z92, q]
      · have z : S 118 s = nI (F s) := (rm.2.2.2.1 s hs).1
        unfold F8_restore
        simp (disch := omega) only [if_pos, if_neg, ite_true, ite_false, not_true_eq_false, Bool.false_eq_true, not_false_eq_true, eq_self, obs, ob1, ob2, obx, opx, li_0, li_1, li_2, li_3, li_4, li_5, li_6, li_7, li_8, li_9, li_10, li_14, li_16, li_20, li_21, li_24, li_25, li_32, li_44, li_48, li_57, li_60, li_64, li_81, li_84, li_99, li_100, li_101, li_108, li_111, li_115, li_116, li_120, li_140, li_255, li_500, li_999, li_1000, li_1092, li_1176, li_10000, li_100000, li_1000000, li_N, li_M, nI_add, pk_mul, pk_sub, pk_div, pk_rem, k_mod, nI_clamp, nI_leI, nI_ltI, nI_eq, qin_nI, nI_m1, nN_lt, nN_lt2, nN_le, nN_le2, nN_eq, nN_eq2, qin_nN, Option.some.injEq, Prod.mk.injEq, Sum.inl.injEq, hin, z, q]
        exact m_throw 2 (by omega) (by omega)
    · have hv2 := (o6 s hs).2 q
      obtain ⟨S1, e1, t1, k1⟩ := c_cp (o := 8) (n := n) ((h7 s hs).2 q) hv2 (by omega) (by omega) (by omega)
      have kx : ∀ x, x < 8 ∨ 12 < x → S1 x = S x := fun x hx => k1 x (by simp only [List.mem_cons, List.not_mem_nil, or_false]; omega)
      have gx : ∀ x, x ≠ 18 → qup S1 18 2 (nI 0) x = S1 x := fun x hx => qup_o _ _ _ hx
      refine okc_r (r := nI (K s 0 1)) (L2 := L) (c2 := c) (T2 := K s) (hc2 := 0) (H2 := H) (F2 := F) (K2 := K) rm ⟨qup S1 18 2 (nI 0), ?_, ⟨?_, isT_cg t1 (fun x a b => gx x (by omega)), ⟨old, h3, ?_, qup_s .., fun i hi => by omega⟩, fun j hj => ?_⟩, ?_⟩ (fun S rm => ?_) ⟨o1, o2, hv2, by omega, fun i hi => by omega, o6⟩
      · have z : qup S1 18 2 (nI 0) 8 1 = nI (K s 0 1) := by
          rw [gx 8 (by omega)]
          exact t1.2.1
        unfold F7_restore F3_giveBack F0_forgetAll
        rw [show (91 + 2 : Nat) = 93 from rfl]
        simp (disch := omega) only [if_pos, if_neg, ite_true, ite_false, not_true_eq_false, Bool.false_eq_true, not_false_eq_true, eq_self, obs, ob1, ob2, obx, opx, li_0, li_1, li_2, li_3, li_4, li_5, li_6, li_7, li_8, li_9, li_10, li_14, li_16, li_20, li_21, li_24, li_25, li_32, li_44, li_48, li_57, li_60, li_64, li_81, li_84, li_99, li_100, li_101, li_108, li_111, li_115, li_116, li_120, li_140, li_255, li_500, li_999, li_1000, li_1092, li_1176, li_10000, li_100000, li_1000000, li_N, li_M, nI_add, pk_mul, pk_sub, pk_div, pk_rem, k_mod, nI_clamp, nI_leI, nI_ltI, nI_eq, qin_nI, nI_m1, nN_lt, nN_lt2, nN_le, nN_le2, nN_eq, nN_eq2, qin_nN, Option.some.injEq, Prod.mk.injEq, Sum.inl.injEq, c_slot_y hs, z92, e1, z]
      · rw [gx 1 (by omega), gx 2 (by omega), kx 1 (by omega), kx 2 (by omega)]
        exact h1
      · rw [qup_k _ _ _ (by omega), kx 18 (by omega)]
        exact h4
      · rw [gx 92 (by omega), kx 92 (by omega)]
        exact ⟨(h7 j hj).1, fun hf => isT_cg ((h7 j hj).2 hf) (fun x a b => by rw [gx x (by omega), kx x (by omega)])⟩
      · exact kC_up (kC_kp k1 (by simp)) (by omega)
      · obtain ⟨m1, m2, ⟨m3, m4⟩, m5, m6⟩ := id rm
        have t1 : isM (qup S 111 0 (nI 0)) 117 (84 * s) (K s) := isM_cg ((m5 s hs).2 q) (qup_o _ _ _ (by omega))
        obtain ⟨S3, f1, f2, f3, f4⟩ := m_ct (n := n) (a := 117) (c := 114) (x := 84 * s) (y := 0) (by omega) (by omega) (by omega) (by omega) (by omega) t1 hv2.2.2.1 (by omega)
        have k3 : kp [111, 114] S (qup S3 111 8 (nI 0)) := kp_up (kp_tr (kp_up (P := [111]) kp_rfl (by simp)) f3 (by simp) (by simp)) (by simp)
        have z111 : S3 111 = (qup S 111 0 (nI 0)) 111 := f3 111 (by decide)
        have tt : isM (qup S3 111 8 (nI 0)) 114 0 (K s) := isM_cg f2 (qup_o _ _ _ (by omega))
        refine ⟨qup S3 111 8 (nI 0), ?_, ⟨?_, tt, ⟨qup_s .., fun i hi => by omega⟩, ?_, ?_⟩, kM_kp k3 (by simp), ?_⟩
        · have z : (qup S3 111 8 (nI 0)) 114 1 = nI (K s 0 1) := tt.2.1
          have zz : S 118 s = nI (F s) := (m5 s hs).1
          unfold F8_restore B8_restore_29 F8_forget
          simp (disch := omega) only [if_pos, if_neg, ite_true, ite_false, not_true_eq_false, Bool.false_eq_true, not_false_eq_true, eq_self, obs, ob1, ob2, obx, opx, li_0, li_1, li_2, li_3, li_4, li_5, li_6, li_7, li_8, li_9, li_10, li_14, li_16, li_20, li_21, li_24, li_25, li_32, li_44, li_48, li_57, li_60, li_64, li_81, li_84, li_99, li_100, li_101, li_108, li_111, li_115, li_116, li_120, li_140, li_255, li_500, li_999, li_1000, li_1092, li_1176, li_10000, li_100000, li_1000000, li_N, li_M, nI_add, pk_mul, pk_sub, pk_div, pk_rem, k_mod, nI_clamp, nI_leI, nI_ltI, nI_eq, qin_nI, nI_m1, nN_lt, nN_lt2, nN_le, nN_le2, nN_eq, nN_eq2, qin_nN, Option.some.injEq, Prod.mk.injEq, Sum.inl.injEq, hin, zz, m_ref_0, f1, z]
        · rw [qup_k _ _ _ (by omega), z111, qup_k _ _ _ (by omega), k3 112 (by decide)]
          exact m1
        · rw [k3 118 (by decide)]
          exact fun j hj => ⟨(m5 j hj).1, fun hf => isM_cg ((m5 j hj).2 hf) (k3 117 (by decide))⟩
        · rw [k3 119 (by decide)]
          exact m6
        · rw [qup_k _ _ _ (by omega), z111, qup_s]
  · refine okc_e (k := 2) (w := 1) hR rm ok ?_ (fun S => by simp (disch := omega) only [if_pos, if_neg, ite_true, ite_false, not_true_eq_false, Bool.false_eq_true, not_false_eq_true, eq_self, obs, ob1, ob2, obx, opx, li_0, li_1, li_2, li_3, li_4, li_5, li_6, li_7, li_8, li_9, li_10, li_14, li_16, li_20, li_21, li_24, li_25, li_32, li_44, li_48, li_57, li_60, li_64, li_81, li_84, li_99, li_100, li_101, li_108, li_111, li_115, li_116, li_120, li_140, li_255, li_500, li_999, li_1000, li_1092, li_1176, li_10000, li_100000, li_1000000, li_N, li_M, nI_add, pk_mul, pk_sub, pk_div, pk_rem, k_mod, nI_clamp, nI_leI, nI_ltI, nI_eq, qin_nI, nI_m1, nN_lt, nN_lt2, nN_le, nN_le2, nN_eq, nN_eq2, qin_nN, Option.some.injEq, Prod.mk.injEq, Sum.inl.injEq]) (by omega) (by omega) (fun S rm => ?_)
    · unfold F7_restore
      simp (disch := omega) only [if_pos, if_neg, ite_true, ite_false, not_true_eq_false, Bool.false_eq_true, not_false_eq_true, eq_self, obs, ob1, ob2, obx, opx, li_0, li_1, li_2, li_3, li_4, li_5, li_6, li_7, li_8, li_9, li_10, li_14, li_16, li_20, li_21, li_24, li_25, li_32, li_44, li_48, li_57, li_60, li_64, li_81, li_84, li_99, li_100, li_101, li_108, li_111, li_115, li_116, li_120, li_140, li_255, li_500, li_999, li_1000, li_1092, li_1176, li_10000, li_100000, li_1000000, li_N, li_M, nI_add, pk_mul, pk_sub, pk_div, pk_rem, k_mod, nI_clamp, nI_leI, nI_ltI, nI_eq, qin_nI, nI_m1, nN_lt, nN_lt2, nN_le, nN_le2, nN_eq, nN_eq2, qin_nN, Option.some.injEq, Prod.mk.injEq, Sum.inl.injEq, c_slot_n hno]
    · have hin : F8_in x.toInt64 0 1 S = nI 0 := by
        rw [l64_0, l64_1]
        exact in_n S (fun j _ h => hno j (by omega)) (by omega) (by omega)
      unfold F8_restore
      simp (disch := omega) only [if_pos, if_neg, ite_true, ite_false, not_true_eq_false, Bool.false_eq_true, not_false_eq_true, eq_self, obs, ob1, ob2, obx, opx, li_0, li_1, li_2, li_3, li_4, li_5, li_6, li_7, li_8, li_9, li_10, li_14, li_16, li_20, li_21, li_24, li_25, li_32, li_44, li_48, li_57, li_60, li_64, li_81, li_84, li_99, li_100, li_101, li_108, li_111, li_115, li_116, li_120, li_140, li_255, li_500, li_999, li_1000, li_1092, li_1176, li_10000, li_100000, li_1000000, li_N, li_M, nI_add, pk_mul, pk_sub, pk_div, pk_rem, k_mod, nI_clamp, nI_leI, nI_ltI, nI_eq, qin_nI, nI_m1, nN_lt, nN_lt2, nN_le, nN_le2, nN_eq, nN_eq2, qin_nN, Option.some.injEq, Prod.mk.injEq, Sum.inl.injEq, hin]
      exact m_throw 1 (by omega) (by omega)
end QSL
