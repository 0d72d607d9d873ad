/-! CALLS -/
def CC (FL : Option (Int32 × qSt)) (F8 : qSt → Option (Int32 × qSt)) : Option qSt := ob2 FL fun r3 S4 => ob2 (F8 S4) fun r6 S7 => if (F8_thrown S7) = r3 then (if ¬ r3 = 0 then (some S7) else (if (lg_cmp ((S7 126 (0 : Int32).toNatClampNeg).toInt64) r6.toInt64) = 0 then (some S7) else (none))) else (none)
def okc (X : Option qSt) : Prop := ∃ S7, X = some S7 ∧ Rel S7
section QCALL
variable {L : Nat} {c : Nat → Nat} {T : Tn} {hc : Nat} {H : Nat → Tn} {F : Nat → Nat} {K : Nat → Tn} {L2 : Nat} {c2 : Nat → Nat} {T2 : Tn} {hc2 : Nat} {H2 : Nat → Tn} {F2 : Nat → Nat} {K2 : Nat → Tn} {S : qSt} {F7 : Option (qOut × qSt)} {F8 : qSt → Option (Int32 × qSt)} {g : Nat → qSt → Option (Int32 × qSt)} {r : Int32}
theorem okc_r (hRM : RM S L c T hc H F K) (hC : ∃ S1, F7 = some (.inl r, S1) ∧ RC S1 L2 c2 T2 hc2 H2 F2 K2 ∧ kC S S1) (hM : ∀ S, RM S L c T hc H F K → ∃ S7, F8 S = some (r, S7) ∧ RM S7 L2 c2 T2 hc2 H2 F2 K2 ∧ kM S S7 ∧ S7 111 0 = nI 0) (hok : OKA L2 c2 T2 hc2 H2 F2 K2) : okc (CC (obx F7 (fun r1 S1 => some (0, qup S1 126 (0 : Int32).toNatClampNeg r1)) g) F8) := by
  obtain ⟨S1, e1, rc, k⟩ := hC
  obtain ⟨S7, e7, rm, km, h0⟩ := hM (qup S1 126 (0 : Int32).toNatClampNeg r) (RM_up (RM_kC hRM k))
  exact ⟨S7, call_r e1 e7 h0 (km 126 (by omega)), L2, c2, T2, hc2, H2, F2, K2, RC_kM (RC_up rc) km, rm, hok⟩
theorem okc_q (hRM : RM S L c T hc H F K) (hC : ∃ S1, F7 = some (.inl r, S1) ∧ RC S1 L c T hc H F K ∧ kC S S1) (hM : ∀ S, RM S L c T hc H F K → ∃ S7, F8 S = some (r, S7) ∧ RM S7 L c T hc H F K ∧ kM S S7 ∧ S7 111 0 = nI 0) (hok : OKA L c T hc H F K) : okc (CC (obx F7 (fun r1 S1 => some (0, qup S1 126 (0 : Int32).toNatClampNeg r1)) g) F8) := okc_r hRM hC hM hok
theorem okc_x {f : Int32 → qSt → Option (Int32 × qSt)} {k w : Nat} (hRM : RM S L c T hc H F K) (hC : ∃ S1, F7 = some (.inr k, S1) ∧ RC S1 L c T hc H F K ∧ kC S S1) (hg : ∀ S, g k S = some (nI w, S)) (hw : 0 < w) (hw2 : w < 100) (hM : ∀ S, RM S L c T hc H F K → ∃ r S7, F8 S = some (r, S7) ∧ RM S7 L c T hc H F K ∧ kM S S7 ∧ S7 111 0 = nI w) (hok : OKA L c T hc H F K) : okc (CC (obx F7 f g) F8) := by
  obtain ⟨S1, e1, rc, kc⟩ := hC
  obtain ⟨r, S7, e7, rm, km, h0⟩ := hM S1 (RM_kC hRM kc)
  exact ⟨S7, call_x e1 (hg S1) hw hw2 e7 h0, L, c, T, hc, H, F, K, RC_kM rc km, rm, hok⟩
theorem RM_q {i : Nat} {v : Int32} (h : RM S L c T hc H F K) (h2 : i ≠ 2) (h8 : i ≠ 8) : RM (qup S 111 i v) L c T hc H F K := RM_cg h (fun x a b d e => qup_o _ _ _ (by omega)) (qup_k _ _ _ (Ne.symm h2)) (qup_k _ _ _ (Ne.symm h8))
end QCALL
theorem kM_up {S S2 : qSt} {o i : Nat} {v : Int32} (h : kM S S2) (ho : 110 < o) (ho2 : o ≠ 126) : kM S (qup S2 o i v) := fun x hx => by
  rw [qup_o _ _ _ (by omega)]
  exact h x hx
theorem kC_up {S S2 : qSt} {o i : Nat} {v : Int32} (h : kC S S2) (ho : o ≤ 110) : kC S (qup S2 o i v) := fun x hx => by
  rw [qup_o _ _ _ (by omega)]
  exact h x hx
theorem chr_1 {j : Nat} (h : j < 256) : ((nI j).toUInt32 % 65536).toInt32 = nI j := by
  rw [pk_char, pk_tn (by omega), Nat.mod_eq_of_lt (by omega)]
theorem chr_2 {j : Nat} (h : j < 256) : (nI j).toUInt32.toUInt16.toUInt32.toInt32 = nI j := by
  rw [lg_i2c_mask, pk_andN (by omega) 16 (by decide +kernel), Nat.mod_eq_of_lt (by omega)]
theorem l64_0 : (0 : Int64) = (nI 0).toInt64 := by decide +kernel
theorem l64_1 : (1 : Int64) = (nI 1).toInt64 := by decide +kernel
theorem l64_3 : (3 : Int64) = (nI 3).toInt64 := by decide +kernel
theorem l64_4 : (4 : Int64) = (nI 4).toInt64 := by decide +kernel
theorem l64_7 : (7 : Int64) = (nI 7).toInt64 := by decide +kernel
theorem l64_60 : (60 : Int64) = (nI 60).toInt64 := by decide +kernel
theorem l64_99 : (99 : Int64) = (nI 99).toInt64 := by decide +kernel
theorem l64_255 : (255 : Int64) = (nI 255).toInt64 := by decide +kernel
theorem l64_999 : (999 : Int64) = (nI 999).toInt64 := by decide +kernel
section QTX
variable {L : Nat} {c : Nat → Nat} {T : Tn} {hc : Nat} {H : Nat → Tn} {F : Nat → Nat} {K : Nat → Tn}
theorem RC_text {S S2 : qSt} {L2 : Nat} {c2 : Nat → Nat} (h : RC S L c T hc H F K) (k : ∀ x, (8 ≤ x ∧ x ≤ 12) ∨ (18 ≤ x ∧ x ≤ 102) → S2 x = S x) (h1 : S2 1 1 = nI L2) (h2 : ∀ i, i < L2 → S2 2 i = nI (c2 i)) : RC S2 L2 c2 T hc H F K := by
  obtain ⟨-, g2, ⟨old, h3, h4, h5, h6⟩, h7⟩ := h
  refine ⟨⟨h1, h2⟩, isT_cg g2 (fun x a b => k x (by omega)), ⟨old, h3, ?_, ?_, fun i hi => isT_cg (h6 i hi) (fun x a b => k x ?_)⟩, fun j hj => ?_⟩
  · rw [k 18 (by omega)]
    exact h4
  · rw [k 18 (by omega)]
    exact h5
  · have : (old + i) % 14 < 14 := Nat.mod_lt _ (by omega)
    omega
  · rw [k 92 (by omega)]
    exact ⟨(h7 j hj).1, fun hf => isT_cg ((h7 j hj).2 hf) (fun x a b => k x (by omega))⟩
theorem RM_text {S S2 : qSt} {L2 : Nat} {c2 : Nat → Nat} (h : RM S L c T hc H F K) (k : ∀ x, 113 ≤ x → x ≤ 119 → x ≠ 113 → x ≠ 115 → S2 x = S x) (k8 : S2 111 8 = S 111 8) (h1 : S2 111 2 = nI L2) (h2 : ∀ i, i < L2 → S2 112 i = nI (c2 i)) : RM S2 L2 c2 T hc H F K := by
  obtain ⟨-, g2, ⟨h3, h4⟩, h5, h6⟩ := h
  unfold RM
  rw [k 118 (by omega) (by omega) (by omega) (by omega), k 119 (by omega) (by omega) (by omega) (by omega), k8]
  exact ⟨⟨h1, h2⟩, isM_cg g2 (k 114 (by omega) (by omega) (by omega) (by omega)), ⟨h3, fun i hi => isM_cg (h4 i hi) (k 116 (by omega) (by omega) (by omega) (by omega))⟩, fun j hj => ⟨(h5 j hj).1, fun hf => isM_cg ((h5 j hj).2 hf) (k 117 (by omega) (by omega) (by omega) (by omega))⟩, h6⟩
end QTX
theorem k_append {S : qSt} (h : Rel S) (x : Int32) : okc (CC (FL_append x S) (F8_append x)) := by
  obtain ⟨L, c, T, hc, H, F, K, rc, rm, ok⟩ := h
  have hL := ok.1
  have q1 : S 1 1 = nI L := rc.1.1
  unfold FL_append
  rcases ix x 256 (by omega) with ⟨j, hj, rfl⟩ | ⟨hno, hb⟩
  · by_cases h140 : L = 140
    · refine okc_x (w := 2) (k := 1) rm ⟨S, ?_, rc, kC_rfl⟩ (fun S => by simp (disch := omega) only [if_pos, if_neg, ite_true, ite_false, not_true_eq_false, Bool.false_eq_true, not_false_eq_true, eq_self, obs, ob1, ob2, obx, opx, li_0, li_1, li_2, li_3, li_4, li_5, li_6, li_7, li_8, li_9, li_10, li_14, li_16, li_20, li_21, li_24, li_25, li_32, li_44, li_48, li_57, li_60, li_64, li_81, li_84, li_99, li_100, li_101, li_108, li_111, li_115, li_116, li_120, li_140, li_255, li_500, li_999, li_1000, li_1092, li_1176, li_10000, li_100000, li_1000000, li_N, li_M, nI_add, pk_mul, pk_sub, pk_div, pk_rem, k_mod, nI_clamp, nI_leI, nI_ltI, nI_eq, qin_nI, nI_m1, nN_lt, nN_lt2, nN_le, nN_le2, nN_eq, nN_eq2, qin_nN, Option.some.injEq, Prod.mk.injEq, Sum.inl.injEq]) (by omega) (by omega) (fun S rm => ⟨nI 0, qup S 111 0 (nI 2), ?_, RM_q rm (by omega) (by omega), kM_up kM_rfl (by omega) (by omega), qup_s ..⟩) ok
      · unfold F7_append
        simp (disch := omega) only [if_pos, if_neg, ite_true, ite_false, not_true_eq_false, Bool.false_eq_true, not_false_eq_true, eq_self, obs, ob1, ob2, obx, opx, li_0, li_1, li_2, li_3, li_4, li_5, li_6, li_7, li_8, li_9, li_10, li_14, li_16, li_20, li_21, li_24, li_25, li_32, li_44, li_48, li_57, li_60, li_64, li_81, li_84, li_99, li_100, li_101, li_108, li_111, li_115, li_116, li_120, li_140, li_255, li_500, li_999, li_1000, li_1092, li_1176, li_10000, li_100000, li_1000000, li_N, li_M, nI_add, pk_mul, pk_sub, pk_div, pk_rem, k_mod, nI_clamp, nI_leI, nI_ltI, nI_eq, qin_nI, nI_m1, nN_lt, nN_lt2, nN_le, nN_le2, nN_eq, nN_eq2, qin_nN, Option.some.injEq, Prod.mk.injEq, Sum.inl.injEq, q1]
      · have q2 : S 111 2 = nI L := rm.1.1
        unfold F8_append B8_append_32
        rw [l64_0, l64_255, in_y S (by omega) (by omega) (by omega)]
        simp (disch := omega) only [if_pos, if_neg, ite_true, ite_false, not_true_eq_false, Bool.false_eq_true, not_false_eq_true, eq_self, obs, ob1, ob2, obx, opx, li_0, li_1, li_2, li_3, li_4, li_5, li_6, li_7, li_8, li_9, li_10, li_14, li_16, li_20, li_21, li_24, li_25, li_32, li_44, li_48, li_57, li_60, li_64, li_81, li_84, li_99, li_100, li_101, li_108, li_111, li_115, li_116, li_120, li_140, li_255, li_500, li_999, li_1000, li_1092, li_1176, li_10000, li_100000, li_1000000, li_N, li_M, nI_add, pk_mul, pk_sub, pk_div, pk_rem, k_mod, nI_clamp, nI_leI, nI_ltI, nI_eq, qin_nI, nI_m1, nN_lt, nN_lt2, nN_le, nN_le2, nN_eq, nN_eq2, qin_nN, Option.some.injEq, Prod.mk.injEq, Sum.inl.injEq, q2, h140, m_ref_w]
    · refine okc_r (r := nI (L + 1)) (L2 := L + 1) (c2 := fun i => if i = L then j else c i) (T2 := T) (hc2 := hc) (H2 := H) (F2 := F) (K2 := K) rm ⟨qup (qup S 2 L (nI j)) 1 1 (nI (L + 1)), ?_, ?_, kC_up (kC_up kC_rfl (by omega)) (by omega)⟩ (fun S rm => ⟨qup (qup (qup S 111 0 (nI 0)) 112 L (nI j)) 111 2 (nI (L + 1)), ?_, ?_, kM_up (kM_up (kM_up kM_rfl (by omega) (by omega)) (by omega) (by omega)) (by omega) (by omega), ?_⟩) ?_
      · unfold F7_append F4_put
        simp (disch := omega) only [if_pos, if_neg, ite_true, ite_false, not_true_eq_false, Bool.false_eq_true, not_false_eq_true, eq_self, obs, ob1, ob2, obx, opx, li_0, li_1, li_2, li_3, li_4, li_5, li_6, li_7, li_8, li_9, li_10, li_14, li_16, li_20, li_21, li_24, li_25, li_32, li_44, li_48, li_57, li_60, li_64, li_81, li_84, li_99, li_100, li_101, li_108, li_111, li_115, li_116, li_120, li_140, li_255, li_500, li_999, li_1000, li_1092, li_1176, li_10000, li_100000, li_1000000, li_N, li_M, nI_add, pk_mul, pk_sub, pk_div, pk_rem, k_mod, nI_clamp, nI_leI, nI_ltI, nI_eq, qin_nI, nI_m1, nN_lt, nN_lt2, nN_le, nN_le2, nN_eq, nN_eq2, qin_nN, Option.some.injEq, Prod.mk.injEq, Sum.inl.injEq, q1, chr_1, chr_2, qup_s, qup_o]
      · refine RC_text rc (fun x hx => by rw [qup_o _ _ _ (by omega), qup_o _ _ _ (by omega)]) (qup_s ..) (fun i hi => ?_)
        rw [qup_o _ _ _ (by omega)]
        by_cases q : i = L
        · subst q
          rw [qup_s, if_pos rfl]
        · rw [qup_k _ _ _ q, if_neg q]
          exact rc.1.2 i (by omega)
      · have q2 : S 111 2 = nI L := rm.1.1
        unfold F8_append B8_append_32
        rw [l64_0, l64_255, in_y S (by omega) (by omega) (by omega)]
        simp (disch := omega) only [if_pos, if_neg, ite_true, ite_false, not_true_eq_false, Bool.false_eq_true, not_false_eq_true, eq_self, obs, ob1, ob2, obx, opx, li_0, li_1, li_2, li_3, li_4, li_5, li_6, li_7, li_8, li_9, li_10, li_14, li_16, li_20, li_21, li_24, li_25, li_32, li_44, li_48, li_57, li_60, li_64, li_81, li_84, li_99, li_100, li_101, li_108, li_111, li_115, li_116, li_120, li_140, li_255, li_500, li_999, li_1000, li_1092, li_1176, li_10000, li_100000, li_1000000, li_N, li_M, nI_add, pk_mul, pk_sub, pk_div, pk_rem, k_mod, nI_clamp, nI_leI, nI_ltI, nI_eq, qin_nI, nI_m1, nN_lt, nN_lt2, nN_le, nN_le2, nN_eq, nN_eq2, qin_nN, Option.some.injEq, Prod.mk.injEq, Sum.inl.injEq, q2, m_ref_0, qup_k, qup_o, qup_s]
      · refine RM_text rm (fun x a b d e => by rw [qup_o _ _ _ (by omega), qup_o _ _ _ (by omega), qup_o _ _ _ (by omega)]) (by rw [qup_k _ _ _ (by omega), qup_o _ _ _ (by omega), qup_k _ _ _ (by omega)]) (qup_s ..) (fun i hi => ?_)
        rw [qup_o _ _ _ (by omega)]
        by_cases q : i = L
        · subst q
          rw [qup_s, if_pos rfl]
        · rw [qup_k _ _ _ q, if_neg q, qup_o _ _ _ (by omega)]
          exact rm.1.2 i (by omega)
      · rw [qup_k _ _ _ (by omega), qup_o _ _ _ (by omega), qup_s]
      · refine ⟨by omega, fun i hi => ?_, ok.2.2⟩
        dsimp only
        split
        · omega
        · exact ok.2.1 i (by omega)
  · refine okc_x (w := 1) (k := 0) rm ⟨S, ?_, rc, kC_rfl⟩ (fun S => by simp (disch := omega) only [if_pos, if_neg, ite_true, ite_false, not_true_eq_false, Bool.false_eq_true, not_false_eq_true, eq_self, obs, ob1, ob2, obx, opx, li_0, li_1, li_2, li_3, li_4, li_5, li_6, li_7, li_8, li_9, li_10, li_14, li_16, li_20, li_21, li_24, li_25, li_32, li_44, li_48, li_57, li_60, li_64, li_81, li_84, li_99, li_100, li_101, li_108, li_111, li_115, li_116, li_120, li_140, li_255, li_500, li_999, li_1000, li_1092, li_1176, li_10000, li_100000, li_1000000, li_N, li_M, nI_add, pk_mul, pk_sub, pk_div, pk_rem, k_mod, nI_clamp, nI_leI, nI_ltI, nI_eq, qin_nI, nI_m1, nN_lt, nN_lt2, nN_le, nN_le2, nN_eq, nN_eq2, qin_nN, Option.some.injEq, Prod.mk.injEq, Sum.inl.injEq]) (by omega) (by omega) (fun S rm => ⟨nI 0, qup S 111 0 (nI 1), ?_, RM_q rm (by omega) (by omega), kM_up kM_rfl (by omega) (by omega), qup_s ..⟩) ok
    · unfold F7_append B7_append_11
      by_cases hx : x < 0
      · rw [if_pos hx]
      · have : ¬ x ≤ 255 := by
          rcases hb with hb | hb
          · exact absurd hb hx
          · rw [Int32.le_iff_toInt_le] at hb ⊢
            have e1 := nI_toInt (n := 256) (by omega)
            have e2 : (255 : Int32).toInt = 255 := rfl
            omega
        rw [if_neg hx, if_neg this]
    · unfold F8_append B8_append_32
      rw [l64_0, l64_255, in_n S (fun j _ h2 => hno j (by omega)) (by omega) (by omega)]
      simp (disch := omega) only [if_pos, if_neg, ite_true, ite_false, not_true_eq_false, Bool.false_eq_true, not_false_eq_true, eq_self, obs, ob1, ob2, obx, opx, li_0, li_1, li_2, li_3, li_4, li_5, li_6, li_7, li_8, li_9, li_10, li_14, li_16, li_20, li_21, li_24, li_25, li_32, li_44, li_48, li_57, li_60, li_64, li_81, li_84, li_99, li_100, li_101, li_108, li_111, li_115, li_116, li_120, li_140, li_255, li_500, li_999, li_1000, li_1092, li_1176, li_10000, li_100000, li_1000000, li_N, li_M, nI_add, pk_mul, pk_sub, pk_div, pk_rem, k_mod, nI_clamp, nI_leI, nI_ltI, nI_eq, qin_nI, nI_m1, nN_lt, nN_lt2, nN_le, nN_le2, nN_eq, nN_eq2, qin_nN, Option.some.injEq, Prod.mk.injEq, Sum.inl.injEq, m_ref_w]
theorem k_clearText {S : qSt} (h : Rel S) : okc (ob2 (F7_clearText S) fun r2 S3 => ob2 (F8_clearText S3) fun r5 S6 => if r2 = r5 then (some S6) else (none)) := by
  obtain ⟨L, c, T, hc, H, F, K, rc, rm, ok⟩ := h
  refine ⟨qup (qup S 1 1 (nI 0)) 111 2 (nI 0), ?_, 0, c, T, hc, H, F, K, ?_, ?_, by omega, fun i hi => by omega, ok.2.2⟩
  · unfold F7_clearText F8_clearText
    have q1 : S 1 1 = nI L := rc.1.1
    have q2 : S 111 2 = nI L := rm.1.1
    simp (disch := omega) only [if_pos, if_neg, ite_true, ite_false, not_true_eq_false, Bool.false_eq_true, not_false_eq_true, eq_self, obs, ob1, ob2, obx, opx, li_0, li_1, li_2, li_3, li_4, li_5, li_6, li_7, li_8, li_9, li_10, li_14, li_16, li_20, li_21, li_24, li_25, li_32, li_44, li_48, li_57, li_60, li_64, li_81, li_84, li_99, li_100, li_101, li_108, li_111, li_115, li_116, li_120, li_140, li_255, li_500, li_999, li_1000, li_1092, li_1176, li_10000, li_100000, li_1000000, li_N, li_M, nI_add, pk_mul, pk_sub, pk_div, pk_rem, k_mod, nI_clamp, nI_leI, nI_ltI, nI_eq, qin_nI, nI_m1, nN_lt, nN_lt2, nN_le, nN_le2, nN_eq, nN_eq2, qin_nN, Option.some.injEq, Prod.mk.injEq, Sum.inl.injEq, qup_o, q1, q2]
  · exact RC_text rc (fun x hx => by rw [qup_o _ _ _ (by omega), qup_o _ _ _ (by omega)]) (by rw [qup_o _ _ _ (by omega), qup_s]) (fun i hi => by omega)
  · exact RM_text rm (fun x a b d e => by rw [qup_o _ _ _ (by omega), qup_o _ _ _ (by omega)]) (by rw [qup_k _ _ _ (by omega), qup_o _ _ _ (by omega)]) (qup_s ..) (fun i hi => by omega)
