/-! A PLAN IS READ -/
def rcB (x : Nat × Option Cm) (f : Nat → Cm → Nat × Option (List Cm)) : Nat × Option (List Cm) :=
  match x.2 with
  | none => (x.1, none)
  | some q => f x.1 q
theorem rcB_n {x : Nat × Option Cm} {f : Nat → Cm → Nat × Option (List Cm)} (h : x.2 = none) : rcB x f = (x.1, none) := by
  unfold rcB
  rw [h]
theorem rcB_s {x : Nat × Option Cm} {f : Nat → Cm → Nat × Option (List Cm)} {q : Cm} (h : x.2 = some q) : rcB x f = f x.1 q := by
  unfold rcB
  rw [h]
def cnL (q : Cm) : Option (List Cm) → Option (List Cm)
  | none => none
  | some l => some (q :: l)
def cnO (q : Cm) (x : Nat × Option (List Cm)) : Nat × Option (List Cm) := (x.1, cnL q x.2)
def rdP (L : Nat) (c : Nat → Nat) : Nat → Nat → Nat × Option (List Cm)
  | 0, i => (i, none)
  | j + 1, i => rcB (rdC L c i) (fun p q => if L ≤ p then (p, some [q]) else if c p = 32 then cnO q (rdP L c j (p + 1)) else (p, none))
def rdPl (L : Nat) (c : Nat → Nat) : Nat × Option (List Cm) := if L = 0 then (0, some []) else rdP L c 141 0
def isL : Option (List Cm) → Nat
  | none => 0
  | some _ => 1
theorem isL_n : isL none = 0 := rfl
theorem isL_s {l : List Cm} : isL (some l) = 1 := rfl
theorem isL_c {q : Cm} {x : Option (List Cm)} : isL (cnL q x) = isL x := by
  cases x <;> rfl
def rP (x : Nat × Option (List Cm)) : Int32 := if isL x.2 = 0 then nI x.1 else nN
/-- the commands from k on in the class's tables -/
def std (S : qSt) : Nat → List Cm → Prop
  | _, [] => True
  | k, q :: l => tab S k q ∧ std S (k + 1) l
section QPLAN
variable {L : Nat} {c : Nat → Nat}
theorem rdP_ok : ∀ j i, i ≤ L → (rdP L c j i).1 ≤ L ∧ ∀ l, (rdP L c j i).2 = some l → i + 5 * l.length ≤ L + 1 ∧ ∀ q ∈ l, okC q := by
  intro j
  induction j with
  | zero => exact fun i hi => ⟨hi, fun l h => by cases h⟩
  | succ j ih =>
    intro i hi
    obtain ⟨r1, r2⟩ := rdC_ok (L := L) (c := c) hi
    rw [rdP]
    cases z : (rdC L c i).2 with
    | none =>
      rw [rcB_n z]
      exact ⟨r1, fun l h => by cases h⟩
    | some q =>
      obtain ⟨r3, r4⟩ := r2 q z
      rw [rcB_s z]
      by_cases q1 : L ≤ (rdC L c i).1
      · rw [if_pos q1]
        refine ⟨r1, fun l h => ?_⟩
        cases h
        refine ⟨?_, fun x hx => ?_⟩
        · simp only [List.length_cons, List.length_nil]
          omega
        · rw [List.mem_singleton.mp hx]
          exact r4
      rw [if_neg q1]
      by_cases q2 : c (rdC L c i).1 = 32
      · rw [if_pos q2]
        obtain ⟨i1, i2⟩ := ih ((rdC L c i).1 + 1) (by omega)
        refine ⟨i1, fun l h => ?_⟩
        unfold cnO at h
        cases y : (rdP L c j ((rdC L c i).1 + 1)).2 with
        | none =>
          rw [y] at h
          cases h
        | some l2 =>
          rw [y] at h
          cases h
          obtain ⟨i3, i4⟩ := i2 l2 y
          refine ⟨?_, fun x hx => ?_⟩
          · simp only [List.length_cons]
            omega
          · rcases List.mem_cons.mp hx with rfl | hx
            · exact r4
            · exact i4 x hx
      · rw [if_neg q2]
        exact ⟨r1, fun l h => by cases h⟩
theorem rdPl_ok (hL : L ≤ 140) : (rdPl L c).1 ≤ L ∧ ∀ l, (rdPl L c).2 = some l → l.length ≤ 28 ∧ ∀ q ∈ l, okC q := by
  unfold rdPl
  by_cases q : L = 0
  · rw [if_pos q]
    refine ⟨Nat.zero_le _, fun l h => ?_⟩
    cases h
    exact ⟨Nat.zero_le _, fun x hx => absurd hx List.not_mem_nil⟩
  · rw [if_neg q]
    obtain ⟨r1, r2⟩ := rdP_ok (L := L) (c := c) 141 0 (Nat.zero_le _)
    refine ⟨r1, fun l h => ?_⟩
    obtain ⟨r3, r4⟩ := r2 l h
    exact ⟨by omega, r4⟩
theorem rP_n {x : Nat × Option (List Cm)} (h : isL x.2 = 0) : rP x = nI x.1 := if_pos h
theorem rP_s {x : Nat × Option (List Cm)} (h : isL x.2 ≠ 0) : rP x = nN := if_neg h
theorem tab_cg {S S2 : qSt} {k : Nat} {q : Cm} (h : tab S k q) (k5 : S2 5 k = S 5 k) (k6 : S2 6 k = S 6 k) (k7 : S2 7 k = S 7 k) : tab S2 k q := by
  unfold tab
  rw [k5, k6, k7]
  exact h
theorem c_plp {n : Nat} (ok : okX L c) (hn : 100 ≤ n) : ∀ j k f S i, L < i + j → j < f → 5 * k ≤ i → i ≤ L → cX S L c → S 4 4 = nI i → ∃ S2, B1_errorIn_23 n f (nI k) S = some (rP (rdP L c j i), S2) ∧ kp [4, 5, 6, 7] S S2 ∧ (∀ r, r < k → S2 5 r = S 5 r ∧ S2 6 r = S 6 r ∧ S2 7 r = S 7 r) ∧ ∀ l, (rdP L c j i).2 = some l → std S2 k l ∧ S2 4 0 = nI (k + l.length) := by
  have hL := ok.1
  intro j
  induction j with
  | zero =>
    intro k f S i h1 hf hk hi hx h4
    omega
  | succ j ih =>
    intro k f S i h1 hf hk hi hx h4
    obtain ⟨g, rfl, hg⟩ := fuel_s hf
    obtain ⟨r1, r2⟩ := rdC_ok (L := L) (c := c) hi
    obtain ⟨S5, e5, a5, ⟨k5, t5⟩, s5⟩ := c_rc (n := n) ok hx hi h4 (show k < 140 by omega) hn
    have hx5 := cX_kp hx k5 (by decide) (by decide)
    have z1 : ¬ nI 1 = (0 : Int32) := by decide
    have tt : ∀ r, r < k → S5 5 r = S 5 r ∧ S5 6 r = S 6 r ∧ S5 7 r = S 7 r := fun r hr => t5 r (by omega)
    rw [B1_errorIn_23, rdP, if_neg (show ¬ (140 : Int32) ≤ nI k from nI_ge (b := 140) (by omega) (by omega)), e5, ob2_s]
    cases z : (rdC L c i).2 with
    | none =>
      rw [rcB_n z, isQ_n, if_neg (show ¬ ¬ nI 0 = (0 : Int32) from nn_p rfl)]
      refine ⟨S5, ?_, k5, tt, fun l h => by cases h⟩
      unfold B1_errorIn_39
      rw [a5]
      rfl
    | some q =>
      obtain ⟨r3, r4⟩ := r2 q z
      obtain ⟨u1, u2⟩ := s5 q z
      rw [rcB_s z, isQ_s, if_pos z1, a5, hx5.1]
      by_cases q1 : L ≤ (rdC L c i).1
      · rw [if_pos q1, if_neg (show ¬ nI (rdC L c i).1 < nI L from nI_nlt q1 (by omega))]
        refine ⟨S5, rfl, k5, tt, fun l h => ?_⟩
        cases h
        exact ⟨⟨u1, trivial⟩, u2⟩
      rw [if_neg q1, if_pos (show nI (rdC L c i).1 < nI L from nI_lt (by omega) (by omega)), c_blank ok hx5 r1 a5]
      by_cases q2 : c (rdC L c i).1 = 32
      · have hx6 := cX_up (v := nI ((rdC L c i).1 + 1)) (o := 4) (k := 4) hx5 (by omega)
        obtain ⟨S7, e7, k7, t7, s7⟩ := ih (k + 1) g (qup S5 4 4 (nI ((rdC L c i).1 + 1))) ((rdC L c i).1 + 1) (by omega) (by omega) (by omega) (by omega) hx6 (qup_s ..)
        rw [if_pos q2, if_pos (show (rdC L c i).1 < L ∧ c (rdC L c i).1 = 32 from ⟨by omega, q2⟩), ob2_s, if_pos z1, nI_1, e7]
        have t8 : ∀ r, r < k + 1 → S7 5 r = S5 5 r ∧ S7 6 r = S5 6 r ∧ S7 7 r = S5 7 r := fun r hr => by
          have h := t7 r hr
          rw [qup_o _ _ _ (by omega), qup_o _ _ _ (by omega), qup_o _ _ _ (by omega)] at h
          exact h
        refine ⟨S7, ?_, kp_tr (kp_up k5 (by simp)) k7 (fun _ h => h) (fun _ h => h), fun r hr => ?_, fun l h => ?_⟩
        · congr 2
          unfold rP cnO
          dsimp only
          rw [isL_c]
        · obtain ⟨y1, y2, y3⟩ := t8 r (by omega)
          rw [y1, y2, y3]
          exact tt r hr
        · unfold cnO at h
          cases y : (rdP L c j ((rdC L c i).1 + 1)).2 with
          | none =>
            rw [y] at h
            cases h
          | some l2 =>
            rw [y] at h
            cases h
            obtain ⟨s8, s9⟩ := s7 l2 y
            obtain ⟨y1, y2, y3⟩ := t8 k (by omega)
            refine ⟨⟨tab_cg u1 y1 y2 y3, s8⟩, ?_⟩
            rw [s9, List.length_cons]
            congr 1
            omega
      · rw [if_neg q2, if_neg (show ¬ ((rdC L c i).1 < L ∧ c (rdC L c i).1 = 32) from fun v => q2 v.2), ob2_s, if_neg (show ¬ ¬ nI 0 = (0 : Int32) from nn_p rfl)]
        refine ⟨S5, ?_, k5, tt, fun l h => by cases h⟩
        unfold B1_errorIn_67
        rw [a5]
        rfl
theorem c_plan {S : qSt} {n : Nat} (ok : okX L c) (hx : cX S L c) (hn : 200 ≤ n) : ∃ S2, F1_errorIn n S = some (rP (rdPl L c), S2) ∧ kp [4, 5, 6, 7] S S2 ∧ ∀ l, (rdPl L c).2 = some l → std S2 0 l ∧ S2 4 0 = nI l.length := by
  have hL := ok.1
  have hx2 := cX_up (v := (0 : Int32)) (o := 4) (k := 0) (cX_up (v := (0 : Int32)) (o := 4) (k := 4) hx (by omega)) (by omega)
  have k2 : kp [4, 5, 6, 7] S (qup (qup S 4 4 0) 4 0 0) := kp_up (kp_up kp_rfl (by simp)) (by simp)
  unfold F1_errorIn rdPl
  rw [obs1, obs1, hx2.1]
  by_cases q : L = 0
  · rw [if_pos q, q, if_neg (show ¬ ¬ nI 0 = (0 : Int32) from nn_p rfl)]
    refine ⟨_, rfl, k2, fun l h => ?_⟩
    cases h
    exact ⟨trivial, qup_s ..⟩
  · rw [if_neg q, if_pos (show ¬ nI L = (0 : Int32) from nI_ne0 (by omega) (by omega))]
    obtain ⟨S3, e3, k3, -, s3⟩ := c_plp (n := n) ok (by omega) 141 0 n (qup (qup S 4 4 0) 4 0 0) 0 (by omega) (by omega) (by omega) (by omega) hx2 (by
      rw [qup_k _ _ _ (by omega)]
      exact qup_s ..)
    refine ⟨S3, e3, kp_tr k2 k3 (fun _ h => h) (fun _ h => h), fun l h => ?_⟩
    obtain ⟨y1, y2⟩ := s3 l h
    rw [Nat.zero_add] at y2
    exact ⟨y1, y2⟩
theorem gm_tr {S A B : qSt} (h : gm S A) (h2 : gm A B) : gm S B := ⟨kp_tr h.1 h2.1 (fun _ h => h) (fun _ h => h), k1_tr h.2 h2.2 (fun _ h => h) (fun _ h => h)⟩
theorem mX_gm {S A : qSt} (h : mX S L c) (g : gm S A) : mX A L c := mX_kp h g.1 g.2 (by decide) (by decide)
theorem hL_gm {S A : qSt} (h : hL S) (g : gm S A) : hL A := fun i hi => by
  rw [g.1 119 (by decide)]
  exact h i hi
theorem m_p0 {S : qSt} {n g : Nat} {v : Int32} : B8_readPlan_20 n (g + 1) (nI 0) v S = some (nI 0, S) := by
  rw [B8_readPlan_20, if_pos (show nI 0 = (0 : Int32) from rfl), if_pos (by decide +kernel)]
theorem m_p1 {S : qSt} {n g : Nat} : B8_readPlan_20 n (g + 1) (nI 1) (nI 0) S = some (nI 1, S) := by
  rw [B8_readPlan_20, if_neg (show ¬ nI 1 = (0 : Int32) by decide), if_pos (show nI 0 = (0 : Int32) from rfl), if_pos (by decide +kernel)]
theorem m_plp {n : Nat} (ok : okX L c) (hn : 100 ≤ n) : ∀ j f S i, L < i + j → j + 1 < f → i ≤ L → mX S L c → hL S → S 111 3 = nI i → ∃ S2, B8_readPlan_20 n f (nI 1) (nI 1) S = some (nI (isL (rdP L c j i).2), S2) ∧ S2 111 3 = nI (rdP L c j i).1 ∧ gm S S2 := by
  have hL := ok.1
  intro j
  induction j with
  | zero =>
    intro f S i h1 hf hi hx hl h3
    omega
  | succ j ih =>
    intro f S i h1 hf hi hx hl h3
    obtain ⟨g, rfl⟩ : ∃ g, f = g + 1 + 1 := ⟨f - 2, by omega⟩
    obtain ⟨r1, r2⟩ := rdC_ok (L := L) (c := c) hi
    obtain ⟨S5, e5, a5, g5, -⟩ := m_rcm (n := n) ok hx hl hi h3 hn
    have hx5 := mX_gm hx g5
    have hl5 := hL_gm hl g5
    have z1 : ¬ nI 1 = (0 : Int32) := by decide
    have z0 : nI 0 = (0 : Int32) := rfl
    have p0 : B8_readPlan_20 n (g + 1) 0 0 = B8_readPlan_20 n (g + 1) (nI 0) (nI 0) := rfl
    rw [B8_readPlan_20, rdP, if_neg z1, if_neg z1, e5, ob2_s]
    unfold B8_readPlan_52 B8_readPlan_53 B8_readPlan_73 B8_readPlan_69 B8_readPlan_74
    cases z : (rdC L c i).2 with
    | none =>
      rw [rcB_n z, isQ_n, if_pos z0, if_pos z0]
      exact ⟨S5, m_p0, a5, g5⟩
    | some q =>
      obtain ⟨r3, r4⟩ := r2 q z
      rw [rcB_s z, isQ_s, if_neg z1, if_neg z1, a5, hx5.1]
      by_cases q1 : L ≤ (rdC L c i).1
      · rw [if_pos q1, if_pos (show nI L ≤ nI (rdC L c i).1 from nI_le q1 (by omega)), if_pos rfl]
        exact ⟨S5, m_p1, a5, g5⟩
      rw [if_neg q1, if_neg (show ¬ nI L ≤ nI (rdC L c i).1 from nI_ge (by omega) (by omega)), if_neg z1, if_neg (show ¬ (1 : Int32) = 0 by decide), m_blank ok hx5 r1 a5]
      by_cases q2 : c (rdC L c i).1 = 32
      · rw [if_pos q2, if_pos (show (rdC L c i).1 < L ∧ c (rdC L c i).1 = 32 from ⟨by omega, q2⟩), ob2_s, if_neg z1]
        obtain ⟨S7, e7, a7, g7⟩ := ih (g + 1) (qup S5 111 3 (nI ((rdC L c i).1 + 1))) ((rdC L c i).1 + 1) (by omega) (by omega) (by omega) (mX_up hx5 (by omega)) (hL_up hl5) (qup_s ..)
        refine ⟨S7, ?_, a7, gm_tr (gm_up g5 (by omega)) g7⟩
        unfold cnO
        dsimp only
        rw [isL_c]
        exact e7
      · rw [if_neg q2, if_neg (show ¬ ((rdC L c i).1 < L ∧ c (rdC L c i).1 = 32) from fun v => q2 v.2), ob2_s, if_pos z0]
        exact ⟨S5, m_p0, a5, g5⟩
theorem m_plan {S : qSt} {n : Nat} (ok : okX L c) (hx : mX S L c) (hl : hL S) (hn : 200 ≤ n) : ∃ S2, F8_readPlan n S = some (nI (isL (rdPl L c).2), S2) ∧ S2 111 3 = nI (rdPl L c).1 ∧ gm S S2 := by
  have hL := ok.1
  have h0 : gm S S := ⟨kp_rfl, k1_rfl⟩
  have hx2 := mX_up (v := (0 : Int32)) (k := 3) hx (by omega)
  unfold F8_readPlan rdPl B8_readPlan_19
  rw [obs1, hx2.1]
  by_cases q : L = 0
  · rw [if_pos q, q, if_pos (show nI 0 ≤ (0 : Int32) by decide)]
    obtain ⟨g, rfl⟩ : ∃ g, n = g + 1 := ⟨n - 1, by omega⟩
    exact ⟨_, m_p1, qup_s .., gm_up h0 (by omega)⟩
  · rw [if_neg q, if_neg (show ¬ nI L ≤ (0 : Int32) from nI_nle (by omega) (by omega))]
    obtain ⟨S3, e3, a3, g3⟩ := m_plp (n := n) ok (by omega) 141 n (qup S 111 3 0) 0 (by omega) (by omega) (by omega) hx2 (hL_up hl) (qup_s ..)
    exact ⟨S3, e3, a3, gm_tr (gm_up h0 (by omega)) g3⟩
end QPLAN
