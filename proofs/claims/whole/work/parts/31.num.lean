/-! NUMBERS -/
def nN : Int32 := -999
theorem li_0 : (0 : Int32) = nI 0 := rfl
theorem li_1 : (1 : Int32) = nI 1 := rfl
theorem li_2 : (2 : Int32) = nI 2 := rfl
theorem li_3 : (3 : Int32) = nI 3 := rfl
theorem li_4 : (4 : Int32) = nI 4 := rfl
theorem li_5 : (5 : Int32) = nI 5 := rfl
theorem li_6 : (6 : Int32) = nI 6 := rfl
theorem li_101 : (101 : Int32) = nI 101 := rfl
theorem li_7 : (7 : Int32) = nI 7 := rfl
theorem li_8 : (8 : Int32) = nI 8 := rfl
theorem li_9 : (9 : Int32) = nI 9 := rfl
theorem li_10 : (10 : Int32) = nI 10 := rfl
theorem li_14 : (14 : Int32) = nI 14 := rfl
theorem li_16 : (16 : Int32) = nI 16 := rfl
theorem li_20 : (20 : Int32) = nI 20 := rfl
theorem li_21 : (21 : Int32) = nI 21 := rfl
theorem li_24 : (24 : Int32) = nI 24 := rfl
theorem li_25 : (25 : Int32) = nI 25 := rfl
theorem li_32 : (32 : Int32) = nI 32 := rfl
theorem li_44 : (44 : Int32) = nI 44 := rfl
theorem li_48 : (48 : Int32) = nI 48 := rfl
theorem li_57 : (57 : Int32) = nI 57 := rfl
theorem li_60 : (60 : Int32) = nI 60 := rfl
theorem li_64 : (64 : Int32) = nI 64 := rfl
theorem li_81 : (81 : Int32) = nI 81 := rfl
theorem li_84 : (84 : Int32) = nI 84 := rfl
theorem li_99 : (99 : Int32) = nI 99 := rfl
theorem li_100 : (100 : Int32) = nI 100 := rfl
theorem li_108 : (108 : Int32) = nI 108 := rfl
theorem li_111 : (111 : Int32) = nI 111 := rfl
theorem li_115 : (115 : Int32) = nI 115 := rfl
theorem li_116 : (116 : Int32) = nI 116 := rfl
theorem li_120 : (120 : Int32) = nI 120 := rfl
theorem li_140 : (140 : Int32) = nI 140 := rfl
theorem li_255 : (255 : Int32) = nI 255 := rfl
theorem li_500 : (500 : Int32) = nI 500 := rfl
theorem li_999 : (999 : Int32) = nI 999 := rfl
theorem li_1000 : (1000 : Int32) = nI 1000 := rfl
theorem li_1092 : (1092 : Int32) = nI 1092 := rfl
theorem li_1176 : (1176 : Int32) = nI 1176 := rfl
theorem li_10000 : (10000 : Int32) = nI 10000 := rfl
theorem li_100000 : (100000 : Int32) = nI 100000 := rfl
theorem li_1000000 : (1000000 : Int32) = nI 1000000 := rfl
theorem li_N : -(nI 999) = nN := by decide +kernel
theorem li_M {a : Nat} : nI (a + 1) + -(nI 1) = nI a := by
  have := pk_m1 a
  exact this
theorem nI_m1 {a : Nat} (h : 0 < a) : nI a + -(nI 1) = nI (a - 1) := by
  obtain ⟨b, rfl⟩ : ∃ b, a = b + 1 := ⟨a - 1, by omega⟩
  exact pk_m1 b
theorem k_mod (k d : Nat) : k - k / d * d = k % d := by
  have := Nat.div_add_mod k d
  rw [Nat.mul_comm] at this
  omega
theorem nN_toInt : nN.toInt = -999 := by decide +kernel
theorem nN_lt {a : Nat} (h : a < 2 ^ 31) : (nN < nI a) = True := eq_true (Int32.lt_iff_toInt_lt.mpr (by rw [nN_toInt, nI_toInt h]; omega))
theorem nN_lt2 {a : Nat} (h : a < 2 ^ 31) : (nI a < nN) = False := eq_false (fun q => by
  have := Int32.lt_iff_toInt_lt.mp q
  rw [nN_toInt, nI_toInt h] at this
  omega)
theorem nN_le {a : Nat} (h : a < 2 ^ 31) : (nN ≤ nI a) = True := eq_true (Int32.le_iff_toInt_le.mpr (by rw [nN_toInt, nI_toInt h]; omega))
theorem nN_le2 {a : Nat} (h : a < 2 ^ 31) : (nI a ≤ nN) = False := eq_false (fun q => by
  have := Int32.le_iff_toInt_le.mp q
  rw [nN_toInt, nI_toInt h] at this
  omega)
theorem nN_eq {a : Nat} (h : a < 2 ^ 31) : (nI a = nN) = False := eq_false (fun q => by
  have := congrArg Int32.toInt q
  rw [nN_toInt, nI_toInt h] at this
  omega)
theorem nN_eq2 {a : Nat} (h : a < 2 ^ 31) : (nN = nI a) = False := eq_false (fun q => by
  have := congrArg Int32.toInt q
  rw [nN_toInt, nI_toInt h] at this
  omega)
theorem qin_nI {a n : Nat} (h : a < 2 ^ 31) : (qin (nI a) n = true) ↔ a < n := by
  simp only [qin, Bool.and_eq_true, decide_eq_true_eq, nI_clamp h]
  exact ⟨fun q => q.2, fun q => ⟨nI_pos' h, q⟩⟩
theorem qin_nN {n : Nat} : (qin nN n = true) = False := eq_false (fun q => by
  simp only [qin, Bool.and_eq_true, decide_eq_true_eq] at q
  exact absurd q.1 (by decide +kernel))
theorem ix (x : Int32) (k : Nat) (hk : k < 2 ^ 31) : (∃ j, j < k ∧ x = nI j) ∨ ((∀ j, j < k → x ≠ nI j) ∧ (x < 0 ∨ nI k ≤ x)) := by
  rcases pk_ix x hk with h | h | ⟨j, hj, rfl⟩
  · right
    refine ⟨fun j hj q => ?_, Or.inl h⟩
    rw [q] at h
    exact nI_pos (by omega) h
  · right
    refine ⟨fun j hj q => ?_, Or.inr h⟩
    rw [q] at h
    exact nI_ge hj hk h
  · exact Or.inl ⟨j, hj, rfl⟩
theorem in32 (x lo hi : Int32) (S : qSt) : F8_in x.toInt64 lo.toInt64 hi.toInt64 S = if x < lo then 0 else if hi < x then 0 else 1 := by
  unfold F8_in
  simp only [lg_cmp_lt, lg_cmp_gt]
  simp only [Int64.lt_iff_toInt_lt, Int32.toInt_toInt64, Int32.lt_iff_toInt_lt]
theorem in_y {j lo hi : Nat} (S : qSt) (h1 : lo ≤ j) (h2 : j ≤ hi) (h : hi < 2 ^ 31) : F8_in (nI j).toInt64 (nI lo).toInt64 (nI hi).toInt64 S = nI 1 := by
  rw [in32]
  simp (disch := omega) only [if_pos, if_neg, ite_true, ite_false, not_true_eq_false, Bool.false_eq_true, not_false_eq_true, eq_self, obs, ob1, ob2, obx, opx, li_0, li_1, li_2, li_3, li_4, li_5, li_6, li_7, li_8, li_9, li_10, li_14, li_16, li_20, li_21, li_24, li_25, li_32, li_44, li_48, li_57, li_60, li_64, li_81, li_84, li_99, li_100, li_101, li_108, li_111, li_115, li_116, li_120, li_140, li_255, li_500, li_999, li_1000, li_1092, li_1176, li_10000, li_100000, li_1000000, li_N, li_M, nI_add, pk_mul, pk_sub, pk_div, pk_rem, k_mod, nI_clamp, nI_leI, nI_ltI, nI_eq, qin_nI, nI_m1, nN_lt, nN_lt2, nN_le, nN_le2, nN_eq, nN_eq2, qin_nN, Option.some.injEq, Prod.mk.injEq, Sum.inl.injEq]
theorem in_n {x : Int32} {lo hi : Nat} (S : qSt) (h2 : ∀ j, lo ≤ j → j ≤ hi → x ≠ nI j) (h : hi + 1 < 2 ^ 31) (hl : lo < 2 ^ 31) : F8_in x.toInt64 (nI lo).toInt64 (nI hi).toInt64 S = nI 0 := by
  rw [in32]
  by_cases h1 : x < nI lo
  · rw [if_pos h1]
    rfl
  · rw [if_neg h1]
    by_cases h3 : nI hi < x
    · rw [if_pos h3]
      rfl
    · exfalso
      rcases ix x (hi + 1) h with ⟨j, hj, rfl⟩ | ⟨h4, h5⟩
      · by_cases h6 : lo ≤ j
        · exact h2 j h6 (by omega) rfl
        · exact h1 (nI_lt (by omega) hl)
      · have e1 := nI_toInt (n := lo) (by omega)
        have e2 := nI_toInt (n := hi) (by omega)
        have e3 := nI_toInt (n := hi + 1) (by omega)
        rw [Int32.lt_iff_toInt_lt] at h1 h3
        rcases h5 with h5 | h5
        · rw [Int32.lt_iff_toInt_lt] at h5
          have : (0 : Int32).toInt = 0 := rfl
          omega
        · rw [Int32.le_iff_toInt_le] at h5
          omega
theorem in_bit {x : Int32} (h : x = nI 0 ∨ x = nI 1) : x &&& 1 = x := by
  rcases h with rfl | rfl <;> decide +kernel
theorem ite_min {a b : Nat} : (if b < a then nI b else nI a) = nI (min a b) := by
  by_cases h : b < a
  · rw [if_pos h, Nat.min_eq_right (by omega)]
  · rw [if_neg h, Nat.min_eq_left (by omega)]
theorem ite_max {a b : Nat} : (if a < b then nI b else nI a) = nI (max a b) := by
  by_cases h : a < b
  · rw [if_pos h, Nat.max_eq_right (by omega)]
  · rw [if_neg h, Nat.max_eq_left (by omega)]
/-- the first that fits, of j from s on -/
def ff (P : Nat → Bool) : Nat → Nat → Int32
  | 0, _ => nN
  | j + 1, s => if P s = true then nI s else ff P j (s + 1)
/-- how many fit, of j from s on -/
def cc (P : Nat → Bool) : Nat → Nat → Nat
  | 0, _ => 0
  | j + 1, s => (if P s = true then 1 else 0) + cc P j (s + 1)
theorem ff_cases (P : Nat → Bool) : ∀ j s, (ff P j s = nN ∧ ∀ i, s ≤ i → i < s + j → P i = false) ∨ ∃ i, s ≤ i ∧ i < s + j ∧ P i = true ∧ ff P j s = nI i ∧ ∀ k, s ≤ k → k < i → P k = false := by
  intro j
  induction j with
  | zero => exact fun s => Or.inl ⟨rfl, fun i h1 h2 => by omega⟩
  | succ j ih =>
    intro s
    rw [ff]
    by_cases h : P s = true
    · rw [if_pos h]
      exact Or.inr ⟨s, Nat.le_refl _, by omega, h, rfl, fun k h1 h2 => by omega⟩
    · rw [if_neg h]
      have h' : P s = false := by simpa using h
      rcases ih (s + 1) with ⟨h1, h2⟩ | ⟨i, h1, h2, h3, h4, h5⟩
      · refine Or.inl ⟨h1, fun i g1 g2 => ?_⟩
        by_cases g : i = s
        · rw [g]
          exact h'
        · exact h2 i (by omega) (by omega)
      · refine Or.inr ⟨i, by omega, by omega, h3, h4, fun k g1 g2 => ?_⟩
        by_cases g : k = s
        · rw [g]
          exact h'
        · exact h5 k (by omega) g2
theorem ff_congr {P Q : Nat → Bool} : ∀ j s, (∀ i, s ≤ i → i < s + j → P i = Q i) → ff P j s = ff Q j s := by
  intro j
  induction j with
  | zero => exact fun _ _ => rfl
  | succ j ih =>
    intro s h
    rw [ff, ff, h s (by omega) (by omega), ih (s + 1) (fun i h1 h2 => h i (by omega) (by omega))]
theorem cc_congr {P Q : Nat → Bool} : ∀ j s, (∀ i, s ≤ i → i < s + j → P i = Q i) → cc P j s = cc Q j s := by
  intro j
  induction j with
  | zero => exact fun _ _ => rfl
  | succ j ih =>
    intro s h
    rw [cc, cc, h s (by omega) (by omega), ih (s + 1) (fun i h1 h2 => h i (by omega) (by omega))]
theorem cc_le (P : Nat → Bool) : ∀ j s, cc P j s ≤ j := by
  intro j
  induction j with
  | zero => exact fun _ => Nat.le_refl _
  | succ j ih =>
    intro s
    have := ih (s + 1)
    rw [cc]
    split <;> omega
/-- states that agree but for some places -/
def kp (P : List Nat) (S S2 : qSt) : Prop := ∀ o, o ∉ P → S2 o = S o
theorem kp_rfl {P : List Nat} {S : qSt} : kp P S S := fun _ _ => rfl
theorem kp_tr {P Q R : List Nat} {S S2 S3 : qSt} (h : kp P S S2) (h2 : kp Q S2 S3) (hP : ∀ x ∈ P, x ∈ R) (hQ : ∀ x ∈ Q, x ∈ R) : kp R S S3 := fun o ho => (h2 o (fun q => ho (hQ o q))).trans (h o (fun q => ho (hP o q)))
theorem kp_mono {P R : List Nat} {S S2 : qSt} (h : kp P S S2) (hP : ∀ x ∈ P, x ∈ R) : kp R S S2 := fun o ho => h o (fun q => ho (hP o q))
theorem kp_up {P : List Nat} {S S2 : qSt} {o k : Nat} {v : Int32} (h : kp P S S2) (ho : o ∈ P) : kp P S (qup S2 o k v) := fun x hx => by
  have : x ≠ o := fun q => hx (q ▸ ho)
  exact (va_up_ne S2 (upd (S2 o) k v) this).trans (h x hx)
theorem qup_s (S : qSt) (o k : Nat) (v : Int32) : qup S o k v o k = v := by
  unfold qup
  rw [va_up_self]
  exact pk_us
theorem qup_k (S : qSt) (o : Nat) {k j : Nat} (v : Int32) (h : j ≠ k) : qup S o k v o j = S o j := by
  unfold qup
  rw [va_up_self]
  exact pk_un h
theorem qup_o (S : qSt) {o x : Nat} (k : Nat) (v : Int32) (h : x ≠ o) : qup S o k v x = S x := va_up_ne S _ h
theorem qup_e (S : qSt) (o k x j : Nat) (v : Int32) : qup S o k v x j = if x = o then (if j = k then v else S x j) else S x j := by
  by_cases h : x = o
  · subst h
    rw [if_pos rfl]
    by_cases h2 : j = k
    · subst h2
      rw [if_pos rfl]
      exact qup_s ..
    · rw [if_neg h2]
      exact qup_k _ _ _ h2
  · rw [if_neg h, qup_o _ _ _ h]
theorem nI_inj {a b : Nat} (ha : a < 2 ^ 31) (hb : b < 2 ^ 31) (h : nI a = nI b) : a = b := (nI_eq ha hb).mp h
theorem nN_ne {a : Nat} (ha : a < 2 ^ 31) (h : nI a = nN) : False := by
  rw [nN_eq ha] at h
  exact h
