/-! CLASS AND MODEL SIDE BY SIDE: text L c, town T, hc remembered towns H, slots F K -/
def RC (S : qSt) (L : Nat) (c : Nat → Nat) (T : Tn) (hc : Nat) (H : Nat → Tn) (F : Nat → Nat) (K : Nat → Tn) : Prop :=
  (S 1 1 = nI L ∧ ∀ i, i < L → S 2 i = nI (c i)) ∧ isT S 8 T ∧ (∃ old, old < 14 ∧ S 18 1 = nI old ∧ S 18 2 = nI hc ∧ ∀ i, i < hc → isT S (20 + 5 * ((old + i) % 14)) (H i)) ∧ ∀ j, j < 2 → S 92 j = nI (F j) ∧ (F j ≠ 0 → isT S (93 + 5 * j) (K j))
def lets : List Nat := [111, 112, 101, 110, 0, 99, 108, 111, 115, 101, 108, 111, 110, 103, 0, 101, 110, 100, 115, 0, 116, 117, 114, 110, 0]
def RM (S : qSt) (L : Nat) (c : Nat → Nat) (T : Tn) (hc : Nat) (H : Nat → Tn) (F : Nat → Nat) (K : Nat → Tn) : Prop :=
  (S 111 2 = nI L ∧ ∀ i, i < L → S 112 i = nI (c i)) ∧ isM S 114 0 T ∧ (S 111 8 = nI hc ∧ ∀ i, i < hc → isM S 116 (84 * i) (H i)) ∧ (∀ j, j < 2 → S 118 j = nI (F j) ∧ (F j ≠ 0 → isM S 117 (84 * j) (K j))) ∧ ∀ i, i < 25 → S 119 i = nI (lets.getD i 0)
def OKA (L : Nat) (c : Nat → Nat) (T : Tn) (hc : Nat) (H : Nat → Tn) (F : Nat → Nat) (K : Nat → Tn) : Prop :=
  L ≤ 140 ∧ (∀ i, i < L → c i ≤ 255) ∧ vT T ∧ hc ≤ 14 ∧ (∀ i, i < hc → vT (H i)) ∧ ∀ j, j < 2 → F j ≤ 1 ∧ (F j ≠ 0 → vT (K j))
def Rel (S : qSt) : Prop := ∃ L c T hc H F K, RC S L c T hc H F K ∧ RM S L c T hc H F K ∧ OKA L c T hc H F K
/-- what a call of the class leaves, and what one of the model leaves -/
def kC (S S2 : qSt) : Prop := ∀ o, 110 < o → S2 o = S o
def kM (S S2 : qSt) : Prop := ∀ o, o ≤ 110 ∨ o = 126 → S2 o = S o
theorem kC_kp {P : List Nat} {S S2 : qSt} (h : kp P S S2) (hP : ∀ x ∈ P, x ≤ 110) : kC S S2 := fun o ho => h o (fun q => by have := hP o q; omega)
theorem kM_kp {P : List Nat} {S S2 : qSt} (h : kp P S S2) (hP : ∀ x ∈ P, 110 < x ∧ x ≠ 126) : kM S S2 := fun o ho => h o (fun q => by have := hP o q; omega)
theorem kC_rfl {S : qSt} : kC S S := fun _ _ => rfl
theorem kM_rfl {S : qSt} : kM S S := fun _ _ => rfl
theorem kC_tr {S S2 S3 : qSt} (h : kC S S2) (h2 : kC S2 S3) : kC S S3 := fun o ho => (h2 o ho).trans (h o ho)
theorem kM_tr {S S2 S3 : qSt} (h : kM S S2) (h2 : kM S2 S3) : kM S S3 := fun o ho => (h2 o ho).trans (h o ho)
theorem isT_cg {S S2 : qSt} {o : Nat} {T : Tn} (h : isT S o T) (k : ∀ x, o ≤ x → x ≤ o + 4 → S2 x = S x) : isT S2 o T := by
  unfold isT
  rw [k o (by omega) (by omega), k (o + 1) (by omega) (by omega), k (o + 2) (by omega) (by omega), k (o + 3) (by omega) (by omega), k (o + 4) (by omega) (by omega)]
  exact h
theorem isM_cg {S S2 : qSt} {m b : Nat} {T : Tn} (h : isM S m b T) (k : S2 m = S m) : isM S2 m b T := by
  unfold isM
  rw [k]
  exact h
section QREL
variable {L : Nat} {c : Nat → Nat} {T : Tn} {hc : Nat} {H : Nat → Tn} {F : Nat → Nat} {K : Nat → Tn}
/-- places that the class's side reads: 1, 2, 8 to 12, 18, 20 to 89, 92 to 102 -/
theorem RC_cg {S S2 : qSt} (h : RC S L c T hc H F K) (k : ∀ x, x ≤ 2 ∨ (8 ≤ x ∧ x ≤ 12) ∨ (18 ≤ x ∧ x ≤ 102) → S2 x = S x) : RC S2 L c T hc H F K := by
  obtain ⟨h1, h2, ⟨old, h3, h4, h5, h6⟩, h7⟩ := h
  refine ⟨?_, isT_cg h2 (fun x a b => k x (by omega)), ⟨old, h3, ?_, ?_, fun i hi => isT_cg (h6 i hi) (fun x a b => k x ?_)⟩, fun j hj => ?_⟩
  · rw [k 1 (by omega), k 2 (by omega)]
    exact h1
  · rw [k 18 (by omega)]
    exact h4
  · rw [k 18 (by omega)]
    exact h5
  · have : (old + i) % 14 < 14 := Nat.mod_lt _ (by omega)
    omega
  · rw [k 92 (by omega)]
    exact ⟨(h7 j hj).1, fun hf => isT_cg ((h7 j hj).2 hf) (fun x a b => k x (by omega))⟩
theorem RC_kp {S S2 : qSt} {P : List Nat} (h : RC S L c T hc H F K) (k : kp P S S2) (hP : ∀ x ∈ P, (3 ≤ x ∧ x ≤ 7) ∨ (13 ≤ x ∧ x ≤ 17) ∨ 103 ≤ x) : RC S2 L c T hc H F K := RC_cg h (fun x hx => k x (fun q => by have := hP x q; omega))
theorem RC_kM {S S2 : qSt} (h : RC S L c T hc H F K) (k : kM S S2) : RC S2 L c T hc H F K := RC_cg h (fun x hx => k x (by omega))
theorem RC_up {S : qSt} {v : Int32} {i : Nat} (h : RC S L c T hc H F K) : RC (qup S 126 i v) L c T hc H F K := RC_cg h (fun x hx => qup_o _ _ _ (by omega))
theorem RM_cg {S S2 : qSt} (h : RM S L c T hc H F K) (k : ∀ x, 112 ≤ x → x ≤ 119 → x ≠ 113 → x ≠ 115 → S2 x = S x) (k2 : S2 111 2 = S 111 2) (k8 : S2 111 8 = S 111 8) : RM S2 L c T hc H F K := by
  obtain ⟨h1, h2, ⟨h3, h4⟩, h5, h6⟩ := h
  unfold RM
  rw [k 112 (by omega) (by omega) (by omega) (by omega), k 118 (by omega) (by omega) (by omega) (by omega), k 119 (by omega) (by omega) (by omega) (by omega), k2, k8]
  exact ⟨h1, isM_cg h2 (k 114 (by omega) (by omega) (by omega) (by omega)), ⟨h3, fun i hi => isM_cg (h4 i hi) (k 116 (by omega) (by omega) (by omega) (by omega))⟩, fun j hj => ⟨(h5 j hj).1, fun hf => isM_cg ((h5 j hj).2 hf) (k 117 (by omega) (by omega) (by omega) (by omega))⟩, h6⟩
theorem RM_kp {S S2 : qSt} {P Q : List Nat} (h : RM S L c T hc H F K) (k : kp P S S2) (k2 : k1 Q S S2) (hP : ∀ x ∈ P, x ≤ 111 ∨ x = 113 ∨ x = 115 ∨ 120 ≤ x) (h2 : 2 ∉ Q) (h8 : 8 ∉ Q) : RM S2 L c T hc H F K := RM_cg h (fun x a b c d => k x (fun q => by have := hP x q; omega)) (k2 2 h2) (k2 8 h8)
theorem RM_kC {S S2 : qSt} (h : RM S L c T hc H F K) (k : kC S S2) : RM S2 L c T hc H F K := RM_cg h (fun x a b d e => k x (by omega)) (by rw [k 111 (by omega)]) (by rw [k 111 (by omega)])
theorem RM_up {S : qSt} {v : Int32} {i : Nat} (h : RM S L c T hc H F K) : RM (qup S 126 i v) L c T hc H F K := RM_cg h (fun x a b d e => qup_o _ _ _ (by omega)) (by rw [qup_o _ _ _ (by omega)]) (by rw [qup_o _ _ _ (by omega)])
end QREL
/-- the end of a call that answers -/
theorem call_r {S1 S7 : qSt} {r : Int32} {F7 : Option (qOut × qSt)} {g : Nat → qSt → Option (Int32 × qSt)} {F8 : qSt → Option (Int32 × qSt)} (h7 : F7 = some (.inl r, S1)) (h8 : F8 (qup S1 126 (0 : Int32).toNatClampNeg r) = some (r, S7)) (h0 : S7 111 0 = nI 0) (hk : S7 126 = qup S1 126 (0 : Int32).toNatClampNeg r 126) : (ob2 (obx F7 (fun r1 S1 => some (0, qup S1 126 (0 : Int32).toNatClampNeg r1)) g) fun r3 S4 => ob2 (F8 S4) fun r6 S7 => if (F8_thrown S7) = r3 then (if ¬ r3 = 0 then (some S7) else (if (lg_cmp ((S7 126 (0 : Int32).toNatClampNeg).toInt64) r6.toInt64) = 0 then (some S7) else (none))) else (none)) = some S7 := by
  subst h7
  show (ob2 (F8 (qup S1 126 (0 : Int32).toNatClampNeg r)) fun r6 S7 => if (F8_thrown S7) = 0 then (if ¬ (0 : Int32) = 0 then (some S7) else (if (lg_cmp ((S7 126 (0 : Int32).toNatClampNeg).toInt64) r6.toInt64) = 0 then (some S7) else (none))) else (none)) = some S7
  rw [h8]
  show (if (F8_thrown S7) = 0 then (if ¬ (0 : Int32) = 0 then (some S7) else (if (lg_cmp ((S7 126 (0 : Int32).toNatClampNeg).toInt64) r.toInt64) = 0 then (some S7) else (none))) else (none)) = some S7
  have e1 : F8_thrown S7 = 0 := h0
  have e2 : S7 126 (0 : Int32).toNatClampNeg = r := by
    rw [hk, qup_s]
  rw [if_pos e1, if_neg (by simp), e2, if_pos ((lg_cmp_eq _ _).mpr rfl)]
/-- the end of a call that throws -/
theorem call_x {S1 S7 : qSt} {r : Int32} {k w : Nat} {F7 : Option (qOut × qSt)} {f : Int32 → qSt → Option (Int32 × qSt)} {g : Nat → qSt → Option (Int32 × qSt)} {F8 : qSt → Option (Int32 × qSt)} (h7 : F7 = some (.inr k, S1)) (hg : g k S1 = some (nI w, S1)) (hw : 0 < w) (hw2 : w < 100) (h8 : F8 S1 = some (r, S7)) (h0 : S7 111 0 = nI w) : (ob2 (obx F7 f g) fun r3 S4 => ob2 (F8 S4) fun r6 S7 => if (F8_thrown S7) = r3 then (if ¬ r3 = 0 then (some S7) else (if (lg_cmp ((S7 126 (0 : Int32).toNatClampNeg).toInt64) r6.toInt64) = 0 then (some S7) else (none))) else (none)) = some S7 := by
  subst h7
  show (ob2 (g k S1) fun r3 S4 => ob2 (F8 S4) fun r6 S7 => if (F8_thrown S7) = r3 then (if ¬ r3 = 0 then (some S7) else (if (lg_cmp ((S7 126 (0 : Int32).toNatClampNeg).toInt64) r6.toInt64) = 0 then (some S7) else (none))) else (none)) = some S7
  rw [hg]
  show (ob2 (F8 S1) fun r6 S7 => if (F8_thrown S7) = nI w then (if ¬ (nI w) = 0 then (some S7) else (if (lg_cmp ((S7 126 (0 : Int32).toNatClampNeg).toInt64) r6.toInt64) = 0 then (some S7) else (none))) else (none)) = some S7
  rw [h8]
  show (if (F8_thrown S7) = nI w then (if ¬ (nI w) = 0 then (some S7) else (if (lg_cmp ((S7 126 (0 : Int32).toNatClampNeg).toInt64) r.toInt64) = 0 then (some S7) else (none))) else (none)) = some S7
  have e1 : F8_thrown S7 = nI w := h0
  rw [if_pos e1, if_pos (nI_ne0 hw (by omega))]
/-- refusals -/
theorem m_ref_0 {S : qSt} : F8_refused (nI 0) S = some (nI 0, qup S 111 0 (nI 0)) := by
  unfold F8_refused
  simp (disch := omega) only [if_pos, if_neg, ite_true, ite_false, not_true_eq_false, Bool.false_eq_true, not_false_eq_true, eq_self, obs, ob1, ob2, obx, opx, li_0, li_1, li_2, li_3, li_4, li_5, li_6, li_7, li_8, li_9, li_10, li_14, li_16, li_20, li_21, li_24, li_25, li_32, li_44, li_48, li_57, li_60, li_64, li_81, li_84, li_99, li_100, li_101, li_108, li_111, li_115, li_116, li_120, li_140, li_255, li_500, li_999, li_1000, li_1092, li_1176, li_10000, li_100000, li_1000000, li_N, li_M, nI_add, pk_mul, pk_sub, pk_div, pk_rem, k_mod, nI_clamp, nI_leI, nI_ltI, nI_eq, qin_nI, nI_m1, nN_lt, nN_lt2, nN_le, nN_le2, nN_eq, nN_eq2, qin_nN, Option.some.injEq, Prod.mk.injEq, Sum.inl.injEq]
theorem m_ref_w {S : qSt} {w : Nat} (h : 0 < w) (h2 : w < 100) : F8_refused (nI w) S = some (nI 1, qup S 111 0 (nI w)) := by
  unfold F8_refused
  simp (disch := omega) only [if_pos, if_neg, ite_true, ite_false, not_true_eq_false, Bool.false_eq_true, not_false_eq_true, eq_self, obs, ob1, ob2, obx, opx, li_0, li_1, li_2, li_3, li_4, li_5, li_6, li_7, li_8, li_9, li_10, li_14, li_16, li_20, li_21, li_24, li_25, li_32, li_44, li_48, li_57, li_60, li_64, li_81, li_84, li_99, li_100, li_101, li_108, li_111, li_115, li_116, li_120, li_140, li_255, li_500, li_999, li_1000, li_1092, li_1176, li_10000, li_100000, li_1000000, li_N, li_M, nI_add, pk_mul, pk_sub, pk_div, pk_rem, k_mod, nI_clamp, nI_leI, nI_ltI, nI_eq, qin_nI, nI_m1, nN_lt, nN_lt2, nN_le, nN_le2, nN_eq, nN_eq2, qin_nN, Option.some.injEq, Prod.mk.injEq, Sum.inl.injEq]
