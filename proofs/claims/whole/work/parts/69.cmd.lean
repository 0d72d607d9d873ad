/-! A COMMAND IS READ -/
abbrev Cm : Type := Nat × Nat × Nat
def isQ : Option Cm → Nat
  | none => 0
  | some _ => 1
theorem isQ_n : isQ none = 0 := rfl
theorem isQ_s {q : Cm} : isQ (some q) = 1 := rfl
def rdC2 (L : Nat) (c : Nat → Nat) (w i : Nat) : Nat × Option Cm :=
  if w = 4 then (i, some (4, 0, 0))
  else if ¬ (i < L ∧ c i = 32) then (i, none)
  else if ¬ dg L c (i + 1) < 10 then (i + 1, none)
  else if w < 2 then (nE L c (i + 1), some (w, nV L c (i + 1), 0))
  else if ¬ (nE L c (i + 1) < L ∧ c (nE L c (i + 1)) = 32) then (nE L c (i + 1), none)
  else if ¬ dg L c (nE L c (i + 1) + 1) < 10 then (nE L c (i + 1) + 1, none)
  else (nE L c (nE L c (i + 1) + 1), some (w, nV L c (i + 1), nV L c (nE L c (i + 1) + 1)))
def rdC (L : Nat) (c : Nat → Nat) (i : Nat) : Nat × Option Cm :=
  if wI L c i = 5 then (i, none)
  else if (mt L c (wI L c i) (ll (wI L c i)) 0 i).2 = 0 then ((mt L c (wI L c i) (ll (wI L c i)) 0 i).1, none)
  else rdC2 L c (wI L c i) (i + ll (wI L c i))
def okC (q : Cm) : Prop := q.1 ≤ 4 ∧ q.2.1 < 100 ∧ q.2.2 < 100
section QCMD
variable {L : Nat} {c : Nat → Nat}
theorem ll_ge {w : Nat} : 4 ≤ ll w := by
  unfold ll
  split <;> omega
theorem rdC2_ok {w i : Nat} (hw : w < 5) (hi : i ≤ L) : (rdC2 L c w i).1 ≤ L ∧ ∀ q, (rdC2 L c w i).2 = some q → i ≤ (rdC2 L c w i).1 ∧ okC q := by
  unfold rdC2
  by_cases q1 : w = 4
  · rw [if_pos q1]
    refine ⟨hi, fun q h => ?_⟩
    cases h
    refine ⟨Nat.le_refl _, ?_⟩
    unfold okC
    dsimp only
    omega
  rw [if_neg q1]
  by_cases q2 : i < L ∧ c i = 32
  case neg =>
    rw [if_pos q2]
    exact ⟨hi, fun q h => by cases h⟩
  rw [if_neg (nn_p q2)]
  by_cases q3 : dg L c (i + 1) < 10
  case neg =>
    rw [if_pos q3]
    exact ⟨by dsimp only; omega, fun q h => by cases h⟩
  rw [if_neg (nn_p q3)]
  obtain ⟨g1, g2⟩ := nE_le q3
  have v1 := nV_lt q3
  by_cases q4 : w < 2
  · rw [if_pos q4]
    refine ⟨g1, fun q h => ?_⟩
    cases h
    refine ⟨by dsimp only; omega, ?_⟩
    unfold okC
    dsimp only
    omega
  rw [if_neg q4]
  by_cases q5 : nE L c (i + 1) < L ∧ c (nE L c (i + 1)) = 32
  case neg =>
    rw [if_pos q5]
    exact ⟨g1, fun q h => by cases h⟩
  rw [if_neg (nn_p q5)]
  by_cases q6 : dg L c (nE L c (i + 1) + 1) < 10
  case neg =>
    rw [if_pos q6]
    exact ⟨by dsimp only; omega, fun q h => by cases h⟩
  rw [if_neg (nn_p q6)]
  obtain ⟨g3, g4⟩ := nE_le q6
  have v2 := nV_lt q6
  refine ⟨g3, fun q h => ?_⟩
  cases h
  refine ⟨by dsimp only; omega, ?_⟩
  unfold okC
  dsimp only
  omega
theorem rdC_ok {i : Nat} (hi : i ≤ L) : (rdC L c i).1 ≤ L ∧ ∀ q, (rdC L c i).2 = some q → i + 4 ≤ (rdC L c i).1 ∧ okC q := by
  unfold rdC
  by_cases q1 : wI L c i = 5
  · rw [if_pos q1]
    exact ⟨hi, fun q h => by cases h⟩
  rw [if_neg q1]
  have := wI_le (L := L) (c := c) (i := i)
  obtain ⟨m1, m2⟩ := mt_le (L := L) (c := c) (w := wI L c i) (ll (wI L c i)) 0 i hi
  by_cases q2 : (mt L c (wI L c i) (ll (wI L c i)) 0 i).2 = 0
  · rw [if_pos q2]
    exact ⟨m1, fun q h => by cases h⟩
  rw [if_neg q2]
  have hl := ll_ge (w := wI L c i)
  obtain ⟨r1, r2⟩ := rdC2_ok (L := L) (c := c) (w := wI L c i) (i := i + ll (wI L c i)) (by omega) (by omega)
  refine ⟨r1, fun q h => ?_⟩
  obtain ⟨r3, r4⟩ := r2 q h
  exact ⟨by omega, r4⟩
/-- the command k of the class's tables -/
def tab (S : qSt) (k : Nat) (q : Cm) : Prop := S 5 k = nI (lets.getD (5 * q.1) 0) ∧ (q.1 ≠ 4 → S 6 k = nI q.2.1) ∧ (2 ≤ q.1 → q.1 ≠ 4 → S 7 k = nI q.2.2)
def gk (S : qSt) (k : Nat) (A : qSt) : Prop := kp [4, 5, 6, 7] S A ∧ ∀ r, r ≠ k → A 5 r = S 5 r ∧ A 6 r = S 6 r ∧ A 7 r = S 7 r
theorem gk_up {S A : qSt} {k o j : Nat} {v : Int32} (h : gk S k A) (ho : o = 4 ∨ (4 < o ∧ o < 8 ∧ j = k)) : gk S k (qup A o j v) := by
  refine ⟨kp_up h.1 (by
    simp only [List.mem_cons, List.not_mem_nil, or_false]
    omega), fun r hr => ?_⟩
  obtain ⟨h1, h2, h3⟩ := h.2 r hr
  have key : ∀ x, 4 < x → qup A o j v x r = A x r := fun x hx => by
    rw [qup_e]
    by_cases z : x = o
    · rw [if_pos z, if_neg (by omega)]
    · rw [if_neg z]
  rw [key 5 (by omega), key 6 (by omega), key 7 (by omega)]
  exact ⟨h1, h2, h3⟩
theorem c_wb {S : qSt} {i : Nat} (ok : okX L c) : F1_wordBeginningWith (chI L c i) S = wI L c i := by
  unfold F1_wordBeginningWith wI
  by_cases q : i < L
  · have e : chI L c i = nI (c i) := if_pos q
    have w3 := ok.2 i q
    have k99 : (nI (c i) = (99 : Int32)) = (c i = 99) := propext (nI_eq (b := 99) (by omega) (by omega))
    have k101 : (nI (c i) = (101 : Int32)) = (c i = 101) := propext (nI_eq (b := 101) (by omega) (by omega))
    have k108 : (nI (c i) = (108 : Int32)) = (c i = 108) := propext (nI_eq (b := 108) (by omega) (by omega))
    have k111 : (nI (c i) = (111 : Int32)) = (c i = 111) := propext (nI_eq (b := 111) (by omega) (by omega))
    have k116 : (nI (c i) = (116 : Int32)) = (c i = 116) := propext (nI_eq (b := 116) (by omega) (by omega))
    rw [e]
    simp only [k99, k101, k108, k111, k116]
    rw [if_pos q]
    by_cases z0 : c i = 111
    · rw [if_neg (by omega), if_neg (by omega), if_neg (by omega), if_pos z0, if_pos z0]
    rw [if_neg z0, if_neg z0]
    by_cases z1 : c i = 99
    · rw [if_pos z1, if_pos z1]
    rw [if_neg z1, if_neg z1]
    by_cases z2 : c i = 108
    · rw [if_neg (by omega), if_pos z2, if_pos z2]
    rw [if_neg z2, if_neg z2]
  · have e : chI L c i = -1 := if_neg q
    rw [e, if_neg q]
    decide +kernel
theorem wI_c {i : Nat} (h : wI L c i < 5) : i < L ∧ c i = lets.getD (5 * wI L c i) 0 := by
  have hi := wI_lt h
  refine ⟨hi, ?_⟩
  have e := wI_hd (wI L c i) h
  rw [e]
  unfold wI at *
  rw [if_pos hi] at *
  by_cases z0 : c i = 111
  · rw [if_pos z0, if_pos rfl]
    exact z0
  rw [if_neg z0] at *
  by_cases z1 : c i = 99
  · rw [if_pos z1]
    exact z1
  rw [if_neg z1] at *
  by_cases z2 : c i = 108
  · rw [if_pos z2]
    exact z2
  rw [if_neg z2] at *
  by_cases z3 : c i = 101
  · rw [if_pos z3]
    exact z3
  rw [if_neg z3] at *
  by_cases z4 : c i = 116
  · rw [if_pos z4]
    exact z4
  rw [if_neg z4] at h
  omega
theorem c_nbh {S : qSt} : ∀ w, w < 5 → F1_numbersBehind (nI (lets.getD (5 * w) 0)) S = if w < 2 then nI 1 else if w < 4 then nI 2 else nI 0 := by
  unfold F1_numbersBehind
  decide +kernel
theorem c_117 {S : qSt} {n k : Nat} : B1_readCommand_117 n (nI k) S = some (nI 1, qup S 4 0 (nI (k + 1))) := by
  unfold B1_readCommand_117
  rw [obs1, nI_1]
  rfl
/-- the rest of a command, behind its word -/
def cR (n : Nat) (k b : Int32) (S : qSt) : Option (Int32 × qSt) := if b ≤ 0 then (B1_readCommand_76 n k b S) else (ob2 (F1_readBlank S) fun r20 S21 => if r20 = 0 then (some (0, S21)) else (ob1 (F4_digitAt (S21 4 4) S21) fun r23 => if ¬ r23 = (-999) then (ob2 (F1_readNumber n S21) fun r25 S26 => obs (qup S26 6 k.toNatClampNeg r25) fun S27 => B1_readCommand_76 n k b S27) else (some (0, S21))))
theorem c_dgn {S : qSt} {i : Nat} (hx : cX S L c) (ok : okX L c) (h4 : S 4 4 = nI i) (hi : i < 1000) {f g : Option (Int32 × qSt)} : (ob1 (F4_digitAt (S 4 4) S) fun r => if ¬ r = (-999) then f else g) = if dg L c i < 10 then f else g := by
  rw [h4, c_dig hx ok hi, ob1_s]
  by_cases q : dg L c i < 10
  · rw [if_pos q, if_pos (show ¬ dgI L c i = (-999) from fun v => by
      rw [dgI_y q] at v
      exact nN_ne (by omega) v)]
  · rw [if_neg q, if_neg (nn_p (show dgI L c i = (-999) from dgI_n q))]
theorem c_rc2 {S0 S : qSt} {i k n w : Nat} (ok : okX L c) (hx : cX S L c) (hw : w < 5) (hi : i ≤ L) (h4 : S 4 4 = nI i) (h5 : S 5 k = nI (lets.getD (5 * w) 0)) (hg : gk S0 k S) (hk : k < 140) (hn : 100 ≤ n) : ∃ S2, cR n (nI k) (if w < 2 then nI 1 else if w < 4 then nI 2 else nI 0) S = some (nI (isQ (rdC2 L c w i).2), S2) ∧ S2 4 4 = nI (rdC2 L c w i).1 ∧ gk S0 k S2 ∧ ∀ q, (rdC2 L c w i).2 = some q → tab S2 k q ∧ S2 4 0 = nI (k + 1) := by
  have hL := ok.1
  unfold rdC2 cR B1_readCommand_76
  by_cases q1 : w = 4
  · subst q1
    rw [if_pos (rfl : 4 = 4), if_neg (show ¬ 4 < 2 by omega), if_neg (show ¬ 4 < 4 by omega), if_pos (show nI 0 ≤ (0 : Int32) by decide), if_pos (show nI 0 ≤ (1 : Int32) by decide), c_117]
    refine ⟨_, rfl, ?_, gk_up hg (Or.inl rfl), fun q h => ?_⟩
    · rw [qup_k _ _ _ (by omega)]
      exact h4
    · cases h
      refine ⟨⟨?_, fun v => absurd rfl v, fun _ v => absurd rfl v⟩, qup_s ..⟩
      rw [qup_o _ _ _ (by omega)]
      exact h5
  have b0 : ¬ (if w < 2 then nI 1 else if w < 4 then nI 2 else nI 0) ≤ (0 : Int32) := by
    split
    · decide
    · rw [if_pos (by omega)]
      decide
  rw [if_neg q1, if_neg b0, c_blank ok hx hi h4]
  by_cases q2 : i < L ∧ c i = 32
  case neg =>
    rw [if_pos q2, if_neg q2, ob2_s, if_pos (show nI 0 = (0 : Int32) from rfl)]
    exact ⟨S, rfl, h4, hg, fun q h => by cases h⟩
  have hx2 := cX_up (v := nI (i + 1)) (o := 4) (k := 4) hx (by omega)
  rw [if_neg (nn_p q2), if_pos q2, ob2_s, if_neg (show ¬ nI 1 = (0 : Int32) by decide), c_dgn hx2 ok (qup_s ..) (by omega)]
  by_cases q3 : dg L c (i + 1) < 10
  case neg =>
    rw [if_pos q3, if_neg q3]
    exact ⟨_, rfl, qup_s .., gk_up hg (Or.inl rfl), fun q h => by cases h⟩
  obtain ⟨g1, g2⟩ := nE_le q3
  rw [if_neg (nn_p q3), if_pos q3, c_num ok hx2 (qup_s ..) q3 hn, qup_qup, ob2_s, nI_clamp (by omega), obs1]
  have hx4 := cX_up (v := nI (nV L c (i + 1))) (o := 6) (k := k) (cX_up (v := nI (nE L c (i + 1))) (o := 4) (k := 4) hx (by omega)) (by omega)
  have hg4 : gk S0 k (qup (qup S 4 4 (nI (nE L c (i + 1)))) 6 k (nI (nV L c (i + 1)))) := gk_up (gk_up hg (Or.inl rfl)) (Or.inr ⟨by omega, by omega, rfl⟩)
  have h44 : (qup (qup S 4 4 (nI (nE L c (i + 1)))) 6 k (nI (nV L c (i + 1)))) 4 4 = nI (nE L c (i + 1)) := by
    rw [qup_o _ _ _ (by omega)]
    exact qup_s ..
  have h45 : (qup (qup S 4 4 (nI (nE L c (i + 1)))) 6 k (nI (nV L c (i + 1)))) 5 k = nI (lets.getD (5 * w) 0) := by
    rw [qup_o _ _ _ (by omega), qup_o _ _ _ (by omega)]
    exact h5
  have h46 : (qup (qup S 4 4 (nI (nE L c (i + 1)))) 6 k (nI (nV L c (i + 1)))) 6 k = nI (nV L c (i + 1)) := qup_s ..
  generalize qup (qup S 4 4 (nI (nE L c (i + 1)))) 6 k (nI (nV L c (i + 1))) = A4 at *
  by_cases q4 : w < 2
  · rw [if_pos q4, if_pos q4, if_pos (show nI 1 ≤ (1 : Int32) by decide), c_117]
    refine ⟨_, rfl, ?_, gk_up hg4 (Or.inl rfl), fun q h => ?_⟩
    · rw [qup_k _ _ _ (by omega)]
      exact h44
    · cases h
      refine ⟨⟨?_, fun _ => ?_, fun v => ?_⟩, qup_s ..⟩
      · rw [qup_o _ _ _ (by omega)]
        exact h45
      · rw [qup_o _ _ _ (by omega)]
        exact h46
      · dsimp only at v
        omega
  rw [if_neg q4, if_neg q4, if_pos (show w < 4 by omega), if_neg (show ¬ nI 2 ≤ (1 : Int32) by decide), c_blank ok hx4 g1 h44]
  by_cases q5 : nE L c (i + 1) < L ∧ c (nE L c (i + 1)) = 32
  case neg =>
    rw [if_pos q5, if_neg q5, ob2_s, if_pos (show nI 0 = (0 : Int32) from rfl)]
    exact ⟨_, rfl, h44, hg4, fun q h => by cases h⟩
  have hx5 := cX_up (v := nI (nE L c (i + 1) + 1)) (o := 4) (k := 4) hx4 (by omega)
  rw [if_neg (nn_p q5), if_pos q5, ob2_s, if_neg (show ¬ nI 1 = (0 : Int32) by decide), c_dgn hx5 ok (qup_s ..) (by omega)]
  by_cases q6 : dg L c (nE L c (i + 1) + 1) < 10
  case neg =>
    rw [if_pos q6, if_neg q6]
    exact ⟨_, rfl, qup_s .., gk_up hg4 (Or.inl rfl), fun q h => by cases h⟩
  rw [if_neg (nn_p q6), if_pos q6, c_num ok hx5 (qup_s ..) q6 hn, qup_qup, ob2_s, if_pos ((qin_nI (by omega)).mpr hk), obs1, c_117]
  refine ⟨_, rfl, ?_, gk_up (gk_up (gk_up hg4 (Or.inl rfl)) (Or.inr ⟨by omega, by omega, rfl⟩)) (Or.inl rfl), fun q h => ?_⟩
  · rw [qup_k _ _ _ (by omega), qup_o _ _ _ (by omega)]
    exact qup_s ..
  · cases h
    refine ⟨⟨?_, fun _ => ?_, fun _ _ => ?_⟩, qup_s ..⟩
    · rw [qup_o _ _ _ (by omega), qup_o _ _ _ (by omega), qup_o _ _ _ (by omega)]
      exact h45
    · rw [qup_o _ _ _ (by omega), qup_o _ _ _ (by omega), qup_o _ _ _ (by omega)]
      exact h46
    · rw [qup_o _ _ _ (by omega)]
      exact qup_s ..
theorem c_rc {S : qSt} {i k n : Nat} (ok : okX L c) (hx : cX S L c) (hi : i ≤ L) (h4 : S 4 4 = nI i) (hk : k < 140) (hn : 100 ≤ n) : ∃ S2, F1_readCommand n (nI k) S = some (nI (isQ (rdC L c i).2), S2) ∧ S2 4 4 = nI (rdC L c i).1 ∧ gk S k S2 ∧ ∀ q, (rdC L c i).2 = some q → tab S2 k q ∧ S2 4 0 = nI (k + 1) := by
  have hL := ok.1
  have h0 : gk S k S := ⟨kp_rfl, fun _ _ => ⟨rfl, rfl, rfl⟩⟩
  unfold F1_readCommand rdC
  rw [h4, c_code hx ok (by omega), ob1_s, c_wb ok]
  by_cases q1 : wI L c i = 5
  · have e : F1_readLetters n 5 S = some (0, S) := by
      obtain ⟨g, rfl⟩ : ∃ g, n = g + 1 := ⟨n - 1, by omega⟩
      unfold F1_readLetters
      rw [B1_readLetters_2, if_pos (show qslen 5 ≤ 0 by decide +kernel), B1_readLetters_44, if_pos (show ¬ qsemp 5 = 0 by decide +kernel)]
    rw [if_pos q1, q1, e, ob2_s, if_neg (nn_p rfl)]
    exact ⟨S, rfl, h4, h0, fun q h => by cases h⟩
  have h5 := wI_le (L := L) (c := c) (i := i)
  have hw : wI L c i < 5 := by omega
  obtain ⟨u1, u2⟩ := wI_c hw
  have hlet : F1_readLetters n (wI L c i) S = _ := c_let (n := n) ok hw (ll (wI L c i)) 0 n S i (by omega) (by have := (ll_e _ hw).2.2.2.1; omega) hx hi h4
  obtain ⟨m1, m2⟩ := mt_le (L := L) (c := c) (w := wI L c i) (ll (wI L c i)) 0 i hi
  rw [if_neg q1, hlet, ob2_s]
  by_cases q2 : (mt L c (wI L c i) (ll (wI L c i)) 0 i).2 = 0
  · rw [if_pos q2, q2, if_neg (show ¬ ¬ nI 0 = (0 : Int32) from nn_p rfl)]
    exact ⟨_, rfl, qup_s .., gk_up h0 (Or.inl rfl), fun q h => by cases h⟩
  obtain ⟨m3, m4⟩ := m2.resolve_right q2
  have z1 : ¬ nI 1 = (0 : Int32) := by decide
  rw [if_neg q2, m3, m4, if_pos z1, if_pos ((qin_nI (by omega)).mpr hk), nI_clamp (by omega), obs1, chI_y ⟨u1, u2⟩, c_nbh _ hw]
  have := c_rc2 (S0 := S) (S := qup (qup S 4 4 (nI (i + ll (wI L c i)))) 5 k (nI (lets.getD (5 * wI L c i) 0))) (k := k) (n := n) (w := wI L c i) (i := i + ll (wI L c i)) ok (cX_up (cX_up hx (by omega)) (by omega)) hw (by omega) (by
    rw [qup_o _ _ _ (by omega)]
    exact qup_s ..) (qup_s ..) (gk_up (gk_up h0 (Or.inl rfl)) (Or.inr ⟨by omega, by omega, rfl⟩)) hk hn
  unfold cR at this
  rw [nI_clamp (by omega)] at this
  exact this
end QCMD
