/-! A COMMAND IS READ, THE MODEL -/
def gm (S A : qSt) : Prop := kp [111] S A ∧ k1 [3, 16, 17, 18] S A
theorem gm_up {S A : qSt} {x : Nat} {v : Int32} (h : gm S A) (hx : x = 3 ∨ x = 16 ∨ x = 17 ∨ x = 18) : gm S (qup A 111 x v) := ⟨kp_up h.1 (by simp), k1_up h.2 (by
  simp only [List.mem_cons, List.not_mem_nil, or_false]
  exact hx)⟩
/-- the command that the model has read -/
def tbm (S : qSt) (q : Cm) : Prop := S 111 16 = nI q.1 ∧ (q.1 ≠ 4 → S 111 17 = nI q.2.1) ∧ (2 ≤ q.1 → q.1 ≠ 4 → S 111 18 = nI q.2.2)
def mR (n : Nat) (S3 : qSt) : Option (Int32 × qSt) := if ¬ (S3 111 16) = 4 then (ob2 (F8_readBlank S3) fun r5 S6 => if r5 = 0 then (B8_readCommand_37 n (-999) S6) else (ob2 (F8_readNumber S6) fun r16 S17 => B8_readCommand_37 n r16 S17)) else (some (1, S3))
section QMC
variable {L : Nat} {c : Nat → Nat}
theorem m_37n {S : qSt} {n : Nat} : B8_readCommand_37 n (-999) S = some (nI 0, qup S 111 17 (-999)) := by
  unfold B8_readCommand_37 B8_readCommand_58
  rw [obs1, qup_s, if_pos rfl, if_pos rfl]
  rfl
theorem m_92n {S : qSt} {n : Nat} : B8_readCommand_92 n (-999) S = some (nI 0, qup S 111 18 (-999)) := by
  unfold B8_readCommand_92
  rw [obs1, qup_s, if_pos rfl]
  rfl
theorem m_92y {S : qSt} {n a : Nat} (ha : a < 100) : B8_readCommand_92 n (nI a) S = some (nI 1, qup S 111 18 (nI a)) := by
  unfold B8_readCommand_92
  rw [obs1, qup_s, if_neg (show ¬ nI a = (-999 : Int32) from fun v => nN_ne (show a < 2 ^ 31 by omega) v)]
  rfl
theorem m_rc2 {S0 S : qSt} {i n w : Nat} (ok : okX L c) (hx : mX S L c) (hw : w < 5) (hi : i ≤ L) (h3 : S 111 3 = nI i) (h16 : S 111 16 = nI w) (hg : gm S0 S) : ∃ S2, mR n S = some (nI (isQ (rdC2 L c w i).2), S2) ∧ S2 111 3 = nI (rdC2 L c w i).1 ∧ gm S0 S2 ∧ ∀ q, (rdC2 L c w i).2 = some q → tbm S2 q := by
  have hL := ok.1
  unfold rdC2 mR
  by_cases q1 : w = 4
  · subst q1
    rw [if_pos (rfl : 4 = 4), h16, if_neg (show ¬ ¬ nI 4 = (4 : Int32) from nn_p rfl)]
    refine ⟨S, rfl, h3, hg, fun q h => ?_⟩
    cases h
    exact ⟨h16, fun v => absurd rfl v, fun _ v => absurd rfl v⟩
  have z0 : nI 0 = (0 : Int32) := rfl
  have z1 : ¬ nI 1 = (0 : Int32) := by decide
  rw [if_neg q1, h16, if_pos (show ¬ nI w = (4 : Int32) from fun v => q1 (nI_inj (b := 4) (by omega) (by omega) v)), m_blank ok hx hi h3]
  by_cases q2 : i < L ∧ c i = 32
  case neg =>
    rw [if_pos q2, if_neg q2, ob2_s, if_pos z0, m_37n]
    refine ⟨_, rfl, ?_, gm_up hg (by omega), fun q h => by cases h⟩
    rw [qup_k _ _ _ (by omega)]
    exact h3
  have hx2 := mX_up (v := nI (i + 1)) (k := 3) hx (by omega)
  rw [if_neg (nn_p q2), if_pos q2, ob2_s, if_neg z1, m_num ok hx2 (show i + 1 ≤ L by omega) (qup_s ..)]
  by_cases q3 : dg L c (i + 1) < 10
  case neg =>
    rw [if_pos q3, if_neg q3, ob2_s, show nN = (-999 : Int32) from rfl, m_37n]
    refine ⟨_, rfl, ?_, gm_up (gm_up hg (by omega)) (by omega), fun q h => by cases h⟩
    rw [qup_k _ _ _ (by omega)]
    exact qup_s ..
  obtain ⟨g1, g2⟩ := nE_le q3
  have v1 := nV_lt q3
  rw [if_neg (nn_p q3), if_pos q3, qup_qup, ob2_s]
  have hg4 : gm S0 (qup (qup S 111 3 (nI (nE L c (i + 1)))) 111 17 (nI (nV L c (i + 1)))) := gm_up (gm_up hg (by omega)) (by omega)
  have hx4 := mX_up (v := nI (nV L c (i + 1))) (k := 17) (mX_up (v := nI (nE L c (i + 1))) (k := 3) hx (by omega)) (by omega)
  have h44 : (qup (qup S 111 3 (nI (nE L c (i + 1)))) 111 17 (nI (nV L c (i + 1)))) 111 3 = nI (nE L c (i + 1)) := by
    rw [qup_k _ _ _ (by omega)]
    exact qup_s ..
  have h45 : (qup (qup S 111 3 (nI (nE L c (i + 1)))) 111 17 (nI (nV L c (i + 1)))) 111 16 = nI w := by
    rw [qup_k _ _ _ (by omega), qup_k _ _ _ (by omega)]
    exact h16
  have h46 : (qup (qup S 111 3 (nI (nE L c (i + 1)))) 111 17 (nI (nV L c (i + 1)))) 111 17 = nI (nV L c (i + 1)) := qup_s ..
  unfold B8_readCommand_37
  rw [obs1]
  generalize qup (qup S 111 3 (nI (nE L c (i + 1)))) 111 17 (nI (nV L c (i + 1))) = A4 at *
  rw [h46, if_neg (show ¬ nI (nV L c (i + 1)) = (-999 : Int32) from fun v => nN_ne (show nV L c (i + 1) < 2 ^ 31 by omega) v), h45]
  by_cases q4 : w < 2
  · unfold B8_readCommand_58
    rw [if_pos q4, if_neg (show ¬ (2 : Int32) ≤ nI w from nI_ge (b := 2) q4 (by omega)), h46, if_neg (show ¬ nI (nV L c (i + 1)) = (-999 : Int32) from fun v => nN_ne (show nV L c (i + 1) < 2 ^ 31 by omega) v)]
    refine ⟨A4, rfl, h44, hg4, fun q h => ?_⟩
    cases h
    refine ⟨h45, fun _ => h46, fun v => ?_⟩
    dsimp only at v
    omega
  rw [if_neg q4, if_pos (show (2 : Int32) ≤ nI w from nI_le (a := 2) (by omega) (by omega)), m_blank ok hx4 g1 h44]
  by_cases q5 : nE L c (i + 1) < L ∧ c (nE L c (i + 1)) = 32
  case neg =>
    rw [if_pos q5, if_neg q5, ob2_s, if_pos z0, m_92n]
    refine ⟨_, rfl, ?_, gm_up hg4 (by omega), fun q h => by cases h⟩
    rw [qup_k _ _ _ (by omega)]
    exact h44
  have hx5 := mX_up (v := nI (nE L c (i + 1) + 1)) (k := 3) hx4 (by omega)
  rw [if_neg (nn_p q5), if_pos q5, ob2_s, if_neg z1, m_num ok hx5 (show nE L c (i + 1) + 1 ≤ L by omega) (qup_s ..)]
  by_cases q6 : dg L c (nE L c (i + 1) + 1) < 10
  case neg =>
    rw [if_pos q6, if_neg q6, ob2_s, show nN = (-999 : Int32) from rfl, m_92n]
    refine ⟨_, rfl, ?_, gm_up (gm_up hg4 (by omega)) (by omega), fun q h => by cases h⟩
    rw [qup_k _ _ _ (by omega)]
    exact qup_s ..
  have v2 := nV_lt q6
  rw [if_neg (nn_p q6), if_pos q6, qup_qup, ob2_s, m_92y v2]
  refine ⟨_, rfl, ?_, gm_up (gm_up hg4 (by omega)) (by omega), fun q h => ?_⟩
  · rw [qup_k _ _ _ (by omega)]
    exact qup_s ..
  · cases h
    refine ⟨?_, fun _ => ?_, fun _ _ => qup_s ..⟩
    · rw [qup_k _ _ _ (by omega), qup_k _ _ _ (by omega)]
      exact h45
    · rw [qup_k _ _ _ (by omega), qup_k _ _ _ (by omega)]
      exact h46
theorem m_rcm {S : qSt} {i n : Nat} (ok : okX L c) (hx : mX S L c) (hl : hL S) (hi : i ≤ L) (h3 : S 111 3 = nI i) (hn : 100 ≤ n) : ∃ S2, F8_readCommand n S = some (nI (isQ (rdC L c i).2), S2) ∧ S2 111 3 = nI (rdC L c i).1 ∧ gm S S2 ∧ ∀ q, (rdC L c i).2 = some q → tbm S2 q := by
  have hL := ok.1
  have h0 : gm S S := ⟨kp_rfl, k1_rfl⟩
  have z1 : ¬ nI 1 = (0 : Int32) := by decide
  unfold F8_readCommand rdC
  rw [m_word ok hx hl hi h3 hn, B8_readWord_60, qup_s]
  by_cases q1 : wI L c i = 5
  · rw [if_pos q1, q1, if_neg (show ¬ ¬ nI 5 = (5 : Int32) from nn_p rfl), ob2_s, if_neg (nn_p rfl)]
    refine ⟨_, rfl, ?_, gm_up h0 (by omega), fun q h => by cases h⟩
    rw [qup_k _ _ _ (by omega)]
    exact h3
  have h5 := wI_le (L := L) (c := c) (i := i)
  have hw : wI L c i < 5 := by omega
  have hlet := m_let (n := n) ok hw (ll (wI L c i)) 0 n (qup S 111 16 (nI (wI L c i))) i (by omega) (by have := (ll_e _ hw).2.2.2.1; omega) (mX_up hx (by omega)) (hL_up hl) (qup_s ..) hi (by rw [qup_k _ _ _ (by omega)]; exact h3)
  obtain ⟨m1, m2⟩ := mt_le (L := L) (c := c) (w := wI L c i) (ll (wI L c i)) 0 i hi
  rw [if_neg q1, if_pos (show ¬ nI (wI L c i) = (5 : Int32) from fun v => q1 (nI_inj (b := 5) (by omega) (by omega) v)), show (0 : Int32) = nI 0 from rfl, hlet, ob2_s]
  by_cases q2 : (mt L c (wI L c i) (ll (wI L c i)) 0 i).2 = 0
  · rw [if_pos q2, q2, if_neg (show ¬ ¬ nI 0 = nI 0 from nn_p rfl)]
    exact ⟨_, rfl, qup_s .., gm_up (gm_up h0 (by omega)) (by omega), fun q h => by cases h⟩
  obtain ⟨m3, m4⟩ := m2.resolve_right q2
  rw [if_neg q2, m3, m4, if_pos (show ¬ nI 1 = nI 0 from z1)]
  exact m_rc2 (S0 := S) (n := n) ok (mX_up (mX_up hx (by omega)) (by omega)) hw (by omega) (qup_s ..) (by
    rw [qup_k _ _ _ (by omega)]
    exact qup_s ..) (gm_up (gm_up h0 (by omega)) (by omega))
end QMC
