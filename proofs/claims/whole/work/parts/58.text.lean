/-! TEXT -/
def cX (S : qSt) (L : Nat) (c : Nat → Nat) : Prop := S 1 1 = nI L ∧ ∀ i, i < L → S 2 i = nI (c i)
def mX (S : qSt) (L : Nat) (c : Nat → Nat) : Prop := S 111 2 = nI L ∧ ∀ i, i < L → S 112 i = nI (c i)
def okX (L : Nat) (c : Nat → Nat) : Prop := L ≤ 140 ∧ ∀ i, i < L → c i ≤ 255
def chI (L : Nat) (c : Nat → Nat) (i : Nat) : Int32 := if i < L then nI (c i) else -1
def dg (L : Nat) (c : Nat → Nat) (i : Nat) : Nat := if i < L ∧ 48 ≤ c i ∧ c i ≤ 57 then c i - 48 else 10
def dgI (L : Nat) (c : Nat → Nat) (i : Nat) : Int32 := if dg L c i < 10 then nI (dg L c i) else nN
def isO : Option Tn → Nat
  | none => 0
  | some _ => 1
theorem isO_n : isO none = 0 := rfl
theorem isO_s {T : Tn} : isO (some T) = 1 := rfl
theorem qup_qup (S : qSt) (o k : Nat) (v w : Int32) : qup (qup S o k v) o k w = qup S o k w := by
  funext x j
  simp only [qup_e]
  by_cases q : x = o <;> by_cases q2 : j = k <;> simp [q, q2]
section QTEXT
variable {L : Nat} {c : Nat → Nat}
theorem dg_le {i : Nat} : dg L c i ≤ 10 := by
  unfold dg
  split <;> omega
theorem dg_lt {i : Nat} (h : dg L c i < 10) : i < L := by
  unfold dg at h
  split at h <;> omega
theorem dgI_y {i : Nat} (h : dg L c i < 10) : dgI L c i = nI (dg L c i) := if_pos h
theorem dgI_n {i : Nat} (h : ¬ dg L c i < 10) : dgI L c i = nN := if_neg h
theorem dgI_ne {i m : Nat} (h : ¬ dg L c i < m) (hm : m ≤ 10) : ∀ k, k < m → dgI L c i ≠ nI k := fun k hk q => by
  by_cases z : dg L c i < 10
  · rw [dgI_y z] at q
    have := nI_inj (by omega) (by omega) q
    omega
  · rw [dgI_n z] at q
    exact nN_ne (show k < 2 ^ 31 by omega) q.symm
theorem m1_ne {k : Nat} (hk : k < 256) : ¬ (-1 : Int32) = nI k := fun q => by
  have h := congrArg Int32.toInt q
  rw [nI_toInt (by omega)] at h
  have : (-1 : Int32).toInt = -1 := by decide +kernel
  omega
theorem chI_y {i k : Nat} (h : i < L ∧ c i = k) : chI L c i = nI k := by
  unfold chI
  rw [if_pos h.1, h.2]
theorem chI_ne {i k : Nat} (ok : okX L c) (hk : k < 256) (h : ¬ (i < L ∧ c i = k)) : (chI L c i = nI k) = False := eq_false (fun q => by
  unfold chI at q
  by_cases z : i < L
  · rw [if_pos z] at q
    have := ok.2 i z
    exact h ⟨z, nI_inj (by omega) (by omega) q⟩
  · rw [if_neg z] at q
    exact m1_ne hk q)
theorem c_code {S : qSt} {i : Nat} (h : cX S L c) (ok : okX L c) (hi : i < 1000) : F4_codeAt (nI i) S = some (chI L c i) := by
  have hL := ok.1
  unfold F4_codeAt chI
  by_cases q : i < L
  · have h2 := h.2 i q
    simp (disch := omega) only [if_pos, if_neg, ite_true, ite_false, not_true_eq_false, Bool.false_eq_true, not_false_eq_true, eq_self, obs, ob1, ob2, obx, opx, li_0, li_1, li_2, li_3, li_4, li_5, li_6, li_7, li_8, li_9, li_10, li_14, li_16, li_20, li_21, li_24, li_25, li_32, li_44, li_48, li_57, li_60, li_64, li_81, li_84, li_99, li_100, li_101, li_108, li_111, li_115, li_116, li_120, li_140, li_255, li_500, li_999, li_1000, li_1092, li_1176, li_10000, li_100000, li_1000000, li_N, li_M, nI_add, pk_mul, pk_sub, pk_div, pk_rem, k_mod, nI_clamp, nI_leI, nI_ltI, nI_eq, qin_nI, nI_m1, nN_lt, nN_lt2, nN_le, nN_le2, nN_eq, nN_eq2, qin_nN, Option.some.injEq, Prod.mk.injEq, Sum.inl.injEq, h.1, h2]
  · simp (disch := omega) only [if_pos, if_neg, ite_true, ite_false, not_true_eq_false, Bool.false_eq_true, not_false_eq_true, eq_self, obs, ob1, ob2, obx, opx, li_0, li_1, li_2, li_3, li_4, li_5, li_6, li_7, li_8, li_9, li_10, li_14, li_16, li_20, li_21, li_24, li_25, li_32, li_44, li_48, li_57, li_60, li_64, li_81, li_84, li_99, li_100, li_101, li_108, li_111, li_115, li_116, li_120, li_140, li_255, li_500, li_999, li_1000, li_1092, li_1176, li_10000, li_100000, li_1000000, li_N, li_M, nI_add, pk_mul, pk_sub, pk_div, pk_rem, k_mod, nI_clamp, nI_leI, nI_ltI, nI_eq, qin_nI, nI_m1, nN_lt, nN_lt2, nN_le, nN_le2, nN_eq, nN_eq2, qin_nN, Option.some.injEq, Prod.mk.injEq, Sum.inl.injEq, h.1]
theorem c_dig {S : qSt} {i : Nat} (h : cX S L c) (ok : okX L c) (hi : i < 1000) : F4_digitAt (nI i) S = some (dgI L c i) := by
  unfold F4_digitAt
  rw [c_code h ok hi]
  by_cases q : i < L
  · have h2 := ok.2 i q
    have e : chI L c i = nI (c i) := if_pos q
    rw [e]
    by_cases z : 48 ≤ c i ∧ c i ≤ 57
    · have hd : dg L c i = c i - 48 := if_pos ⟨q, z⟩
      rw [dgI_y (by omega), hd]
      simp (disch := omega) only [if_pos, if_neg, ite_true, ite_false, not_true_eq_false, Bool.false_eq_true, not_false_eq_true, eq_self, obs, ob1, ob2, obx, opx, li_0, li_1, li_2, li_3, li_4, li_5, li_6, li_7, li_8, li_9, li_10, li_14, li_16, li_20, li_21, li_24, li_25, li_32, li_44, li_48, li_57, li_60, li_64, li_81, li_84, li_99, li_100, li_101, li_108, li_111, li_115, li_116, li_120, li_140, li_255, li_500, li_999, li_1000, li_1092, li_1176, li_10000, li_100000, li_1000000, li_N, li_M, nI_add, pk_mul, pk_sub, pk_div, pk_rem, k_mod, nI_clamp, nI_leI, nI_ltI, nI_eq, qin_nI, nI_m1, nN_lt, nN_lt2, nN_le, nN_le2, nN_eq, nN_eq2, qin_nN, Option.some.injEq, Prod.mk.injEq, Sum.inl.injEq]
    · have hd : dg L c i = 10 := if_neg (fun w => z w.2)
      rw [dgI_n (by omega)]
      by_cases w : c i < 48
      · simp (disch := omega) only [if_pos, if_neg, ite_true, ite_false, not_true_eq_false, Bool.false_eq_true, not_false_eq_true, eq_self, obs, ob1, ob2, obx, opx, li_0, li_1, li_2, li_3, li_4, li_5, li_6, li_7, li_8, li_9, li_10, li_14, li_16, li_20, li_21, li_24, li_25, li_32, li_44, li_48, li_57, li_60, li_64, li_81, li_84, li_99, li_100, li_101, li_108, li_111, li_115, li_116, li_120, li_140, li_255, li_500, li_999, li_1000, li_1092, li_1176, li_10000, li_100000, li_1000000, li_N, li_M, nI_add, pk_mul, pk_sub, pk_div, pk_rem, k_mod, nI_clamp, nI_leI, nI_ltI, nI_eq, qin_nI, nI_m1, nN_lt, nN_lt2, nN_le, nN_le2, nN_eq, nN_eq2, qin_nN, Option.some.injEq, Prod.mk.injEq, Sum.inl.injEq]
      · simp (disch := omega) only [if_pos, if_neg, ite_true, ite_false, not_true_eq_false, Bool.false_eq_true, not_false_eq_true, eq_self, obs, ob1, ob2, obx, opx, li_0, li_1, li_2, li_3, li_4, li_5, li_6, li_7, li_8, li_9, li_10, li_14, li_16, li_20, li_21, li_24, li_25, li_32, li_44, li_48, li_57, li_60, li_64, li_81, li_84, li_99, li_100, li_101, li_108, li_111, li_115, li_116, li_120, li_140, li_255, li_500, li_999, li_1000, li_1092, li_1176, li_10000, li_100000, li_1000000, li_N, li_M, nI_add, pk_mul, pk_sub, pk_div, pk_rem, k_mod, nI_clamp, nI_leI, nI_ltI, nI_eq, qin_nI, nI_m1, nN_lt, nN_lt2, nN_le, nN_le2, nN_eq, nN_eq2, qin_nN, Option.some.injEq, Prod.mk.injEq, Sum.inl.injEq]
  · have e : chI L c i = -1 := if_neg q
    have hd : dg L c i = 10 := if_neg (fun w => q w.1)
    rw [e, dgI_n (by omega)]
    show (if (-1 : Int32) < 48 then some (-999) else if (57 : Int32) < -1 then some (-999) else some (-1 - 48)) = some nN
    rw [if_pos (by decide)]
    rfl
theorem s48_ne {a k : Nat} (ha : a < 256) (hk : k < 10) (h : a ≠ k + 48) : ¬ nI a - nI 48 = nI k := fun q => by
  have h2 := congrArg (fun x => x + nI 48) q
  rw [Int32.sub_add_cancel, nI_add] at h2
  exact h (nI_inj (by omega) (by omega) h2)
theorem m_dig {S : qSt} {i lo hi : Nat} (h : mX S L c) (ok : okX L c) (h3 : S 111 3 = nI i) (hi1 : i < 1000) (hhi : hi ≤ 9) (hlo : lo ≤ 9) : F8_digit (nI lo) (nI hi) S = some (if lo ≤ dg L c i ∧ dg L c i ≤ hi then (nI (dg L c i), qup S 111 3 (nI (i + 1))) else (nN, S)) := by
  have hL := ok.1
  unfold F8_digit B8_digit_29
  by_cases q : i < L
  · have h2 := ok.2 i q
    have h1 := h.2 i q
    by_cases z : lo ≤ dg L c i ∧ dg L c i ≤ hi
    · have hd : 48 ≤ c i ∧ c i ≤ 57 := Classical.byContradiction fun w => by
        have : dg L c i = 10 := if_neg (fun v => w v.2)
        omega
      have e : dg L c i = c i - 48 := if_pos ⟨q, hd⟩
      rw [if_pos z]
      have hin : F8_in (nI (c i - 48)).toInt64 (nI lo).toInt64 (nI hi).toInt64 S = nI 1 := in_y S (by omega) (by omega) (by omega)
      simp (disch := omega) only [if_pos, if_neg, ite_true, ite_false, not_true_eq_false, Bool.false_eq_true, not_false_eq_true, eq_self, obs, ob1, ob2, obx, opx, li_0, li_1, li_2, li_3, li_4, li_5, li_6, li_7, li_8, li_9, li_10, li_14, li_16, li_20, li_21, li_24, li_25, li_32, li_44, li_48, li_57, li_60, li_64, li_81, li_84, li_99, li_100, li_101, li_108, li_111, li_115, li_116, li_120, li_140, li_255, li_500, li_999, li_1000, li_1092, li_1176, li_10000, li_100000, li_1000000, li_N, li_M, nI_add, pk_mul, pk_sub, pk_div, pk_rem, k_mod, nI_clamp, nI_leI, nI_ltI, nI_eq, qin_nI, nI_m1, nN_lt, nN_lt2, nN_le, nN_le2, nN_eq, nN_eq2, qin_nN, Option.some.injEq, Prod.mk.injEq, Sum.inl.injEq, h.1, h3, h1, hin, e]
    · rw [if_neg z]
      have hin : F8_in (nI (c i) - nI 48).toInt64 (nI lo).toInt64 (nI hi).toInt64 S = nI 0 := in_n S (fun k h4 h5 => s48_ne (by omega) (by omega) (fun w => z (by
        have : dg L c i = c i - 48 := if_pos ⟨q, by omega, by omega⟩
        omega))) (by omega) (by omega)
      by_cases w : 48 ≤ c i
      · rw [pk_sub w] at hin
        simp (disch := omega) only [if_pos, if_neg, ite_true, ite_false, not_true_eq_false, Bool.false_eq_true, not_false_eq_true, eq_self, obs, ob1, ob2, obx, opx, li_0, li_1, li_2, li_3, li_4, li_5, li_6, li_7, li_8, li_9, li_10, li_14, li_16, li_20, li_21, li_24, li_25, li_32, li_44, li_48, li_57, li_60, li_64, li_81, li_84, li_99, li_100, li_101, li_108, li_111, li_115, li_116, li_120, li_140, li_255, li_500, li_999, li_1000, li_1092, li_1176, li_10000, li_100000, li_1000000, li_N, li_M, nI_add, pk_mul, pk_sub, pk_div, pk_rem, k_mod, nI_clamp, nI_leI, nI_ltI, nI_eq, qin_nI, nI_m1, nN_lt, nN_lt2, nN_le, nN_le2, nN_eq, nN_eq2, qin_nN, Option.some.injEq, Prod.mk.injEq, Sum.inl.injEq, h.1, h3, h1, hin]
      · simp (disch := omega) only [if_pos, if_neg, ite_true, ite_false, not_true_eq_false, Bool.false_eq_true, not_false_eq_true, eq_self, obs, ob1, ob2, obx, opx, li_0, li_1, li_2, li_3, li_4, li_5, li_6, li_7, li_8, li_9, li_10, li_14, li_16, li_20, li_21, li_24, li_25, li_32, li_44, li_48, li_57, li_60, li_64, li_81, li_84, li_99, li_100, li_101, li_108, li_111, li_115, li_116, li_120, li_140, li_255, li_500, li_999, li_1000, li_1092, li_1176, li_10000, li_100000, li_1000000, li_N, li_M, nI_add, pk_mul, pk_sub, pk_div, pk_rem, k_mod, nI_clamp, nI_leI, nI_ltI, nI_eq, qin_nI, nI_m1, nN_lt, nN_lt2, nN_le, nN_le2, nN_eq, nN_eq2, qin_nN, Option.some.injEq, Prod.mk.injEq, Sum.inl.injEq, h.1, h3, h1, hin]
  · have hd : dg L c i = 10 := if_neg (fun w => q w.1)
    have hin : F8_in nN.toInt64 (nI lo).toInt64 (nI hi).toInt64 S = nI 0 := in_n S (fun k h4 h5 w => nN_ne (show k < 2 ^ 31 by omega) w.symm) (by omega) (by omega)
    have z : ¬ (lo ≤ dg L c i ∧ dg L c i ≤ hi) := by omega
    rw [if_neg z]
    simp (disch := omega) only [if_pos, if_neg, ite_true, ite_false, not_true_eq_false, Bool.false_eq_true, not_false_eq_true, eq_self, obs, ob1, ob2, obx, opx, li_0, li_1, li_2, li_3, li_4, li_5, li_6, li_7, li_8, li_9, li_10, li_14, li_16, li_20, li_21, li_24, li_25, li_32, li_44, li_48, li_57, li_60, li_64, li_81, li_84, li_99, li_100, li_101, li_108, li_111, li_115, li_116, li_120, li_140, li_255, li_500, li_999, li_1000, li_1092, li_1176, li_10000, li_100000, li_1000000, li_N, li_M, nI_add, pk_mul, pk_sub, pk_div, pk_rem, k_mod, nI_clamp, nI_leI, nI_ltI, nI_eq, qin_nI, nI_m1, nN_lt, nN_lt2, nN_le, nN_le2, nN_eq, nN_eq2, qin_nN, Option.some.injEq, Prod.mk.injEq, Sum.inl.injEq, h.1, h3, hin]
end QTEXT
/-- no crossing has more streets than there are other crossings -/
theorem cc_aN_le {T : Tn} (hv : vT T) {a : Nat} (ha : a < T 0 0) : cc (fun s => aN T s a) (T 0 1) 0 ≤ T 0 0 - 1 := by
  have h9 := hv.2.1
  have key : ∀ s, ∃ f : Nat → Bool, ∀ b, f b = true ↔ ∃ r, s ≤ r ∧ r < T 0 1 ∧ jn T r a b := fun s => bool_ex _
  obtain ⟨f, hf⟩ := Classical.axiomOfChoice key
  have main : ∀ j s, s + j = T 0 1 → cc (fun s => aN T s a) j s ≤ (List.range 9).countP (f s) := by
    intro j
    induction j with
    | zero => exact fun s hs => Nat.zero_le _
    | succ j ih =>
      intro s hs
      have h1 := ih (s + 1) (by omega)
      have vs := hv.2.2.2.2.2.2.1 s (by omega)
      have up : ∀ b, f (s + 1) b = true → f s b = true := fun b hb => by
        obtain ⟨r, g1, g2, g3⟩ := (hf (s + 1) b).mp hb
        exact (hf s b).mpr ⟨r, by omega, g2, g3⟩
      rw [cc]
      by_cases q : aN T s a = true
      · rw [if_pos q]
        have q2 : T 1 s = a ∨ T 2 s = a := by
          unfold aN at q
          simpa using q
        have hj : jn T s a (oT T s a) := by
          unfold jn oT
          by_cases z : T 1 s = a
          · rw [if_pos z]
            exact Or.inl ⟨z, rfl⟩
          · rw [if_neg z]
            exact Or.inr ⟨rfl, q2.resolve_left z⟩
        have ho : oT T s a < 9 := by
          unfold oT
          split <;> omega
        have hn : f (s + 1) (oT T s a) = false := by
          cases z : f (s + 1) (oT T s a) with
          | false => rfl
          | true =>
            obtain ⟨r, g1, g2, g3⟩ := (hf (s + 1) _).mp z
            have vr := hv.2.2.2.2.2.2.1 r g2
            have hu := hv.2.2.2.2.2.2.2 r s g2 (by omega)
            unfold jn at g3 hj
            have := hu (by omega) (by omega)
            omega
        have := countP_lt (l := List.range 9) (p := f (s + 1)) (q := f s) (fun x _ hx => up x hx) (List.mem_range.mpr ho) hn ((hf s _).mpr ⟨s, Nat.le_refl _, by omega, hj⟩)
        omega
      · rw [if_neg q]
        have := List.countP_mono_left (l := List.range 9) (p := f (s + 1)) (q := f s) (fun x _ hx => up x hx)
        omega
  have h1 := main (T 0 1) 0 (by omega)
  have h2 : (List.range 9).countP (f 0) + 1 ≤ (List.range 9).countP (fun b => decide (b < T 0 0)) := by
    refine countP_lt (b := a) (fun x _ hx => ?_) (List.mem_range.mpr (by omega)) ?_ (by simpa using ha)
    · obtain ⟨r, g1, g2, g3⟩ := (hf 0 x).mp hx
      have vr := hv.2.2.2.2.2.2.1 r g2
      unfold jn at g3
      simp only [decide_eq_true_eq]
      omega
    · cases z : f 0 a with
      | false => rfl
      | true =>
        obtain ⟨r, g1, g2, g3⟩ := (hf 0 a).mp z
        have vr := hv.2.2.2.2.2.2.1 r g2
        unfold jn at g3
        omega
  have h3 : ∀ m, m < 10 → (List.range 9).countP (fun b => decide (b < m)) = m := by decide +kernel
  rw [h3 _ (by omega)] at h2
  omega
