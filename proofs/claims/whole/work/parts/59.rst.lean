/-! ONE STREET IS READ -/
/-- at i in a text: the error position, or behind the street, with the town then -/
def rdS (L : Nat) (c : Nat → Nat) (T : Tn) (i : Nat) : Nat × Option Tn :=
  if ¬ (i < L ∧ c i = 115) ∨ 20 ≤ T 0 1 ∨ T 0 0 * (T 0 0 - 1) ≤ 2 * T 0 1 then (i, none)
  else if ¬ dg L c (i + 1) < T 0 0 ∨ T 0 0 - 1 ≤ cc (fun s => aN T s (dg L c (i + 1))) (T 0 1) 0 then (i + 1, none)
  else if ¬ dg L c (i + 2) < T 0 0 ∨ dg L c (i + 1) = dg L c (i + 2) ∨ tj T (dg L c (i + 1)) (dg L c (i + 2)) ≠ nN then (i + 2, none)
  else if ¬ dg L c (i + 3) < 10 then (i + 3, none)
  else if ¬ dg L c (i + 4) < 10 ∨ dg L c (i + 3) + dg L c (i + 4) = 0 then (i + 4, none)
  else if i + 5 < L ∧ c (i + 5) = 120 then (i + 6, some (tU (tA T (dg L c (i + 1)) (dg L c (i + 2)) (10 * dg L c (i + 3) + dg L c (i + 4))) 4 (T 0 1) 1))
  else (i + 5, some (tA T (dg L c (i + 1)) (dg L c (i + 2)) (10 * dg L c (i + 3) + dg L c (i + 4))))
theorem ob1_s {α β : Type} {x : α} {f : α → Option β} : ob1 (some x) f = f x := rfl
theorem ob2_s {β : Type} {x : Int32} {S : qSt} {f : Int32 → qSt → Option β} : ob2 (some (x, S)) f = f x S := rfl
theorem tA_01 {T : Tn} {a b l : Nat} : tA T a b l 0 1 = T 0 1 + 1 := by
  unfold tA tP
  simp (disch := omega) only [qup_e, if_pos, if_neg, ite_true, ite_false, eq_self, and_self, true_and, and_true, tU]
theorem tA_00 {T : Tn} {a b l : Nat} : tA T a b l 0 0 = T 0 0 := by
  unfold tA tP
  simp (disch := omega) only [qup_e, if_pos, if_neg, ite_true, ite_false, eq_self, and_self, true_and, and_true, tU]
theorem tU_4 {T : Tn} {s v : Nat} : tU T 4 s v 0 = T 0 := by
  funext x
  simp (disch := omega) only [qup_e, if_pos, if_neg, ite_true, ite_false, eq_self, and_self, true_and, and_true, tU]
section QRST
variable {L : Nat} {c : Nat → Nat} {T : Tn}
/-- what holds of it -/
theorem rdS_ok (hv : vT T) {i : Nat} (hi : i ≤ L) : (rdS L c T i).1 ≤ L ∧ ∀ T2, (rdS L c T i).2 = some T2 → vT T2 ∧ T2 0 1 = T 0 1 + 1 ∧ T2 0 0 = T 0 0 ∧ i < (rdS L c T i).1 := by
  have h9 := hv.2.1
  unfold rdS
  by_cases q1 : ¬ (i < L ∧ c i = 115) ∨ 20 ≤ T 0 1 ∨ T 0 0 * (T 0 0 - 1) ≤ 2 * T 0 1
  · rw [if_pos q1]
    exact ⟨hi, fun T2 h => by cases h⟩
  rw [if_neg q1]
  have hi1 : i < L := Classical.byContradiction fun w => q1 (Or.inl (fun v => w v.1))
  by_cases q2 : ¬ dg L c (i + 1) < T 0 0 ∨ T 0 0 - 1 ≤ cc (fun s => aN T s (dg L c (i + 1))) (T 0 1) 0
  · rw [if_pos q2]
    exact ⟨by dsimp only; omega, fun T2 h => by cases h⟩
  rw [if_neg q2]
  have ha : dg L c (i + 1) < T 0 0 := Classical.byContradiction fun w => q2 (Or.inl w)
  have hi2 : i + 1 < L := dg_lt (c := c) (by omega)
  by_cases q3 : ¬ dg L c (i + 2) < T 0 0 ∨ dg L c (i + 1) = dg L c (i + 2) ∨ tj T (dg L c (i + 1)) (dg L c (i + 2)) ≠ nN
  · rw [if_pos q3]
    exact ⟨by dsimp only; omega, fun T2 h => by cases h⟩
  rw [if_neg q3]
  have hb : dg L c (i + 2) < T 0 0 := Classical.byContradiction fun w => q3 (Or.inl w)
  have hab : dg L c (i + 1) ≠ dg L c (i + 2) := fun w => q3 (Or.inr (Or.inl w))
  have hj : tj T (dg L c (i + 1)) (dg L c (i + 2)) = nN := Classical.byContradiction fun w => q3 (Or.inr (Or.inr w))
  have hi3 : i + 2 < L := dg_lt (c := c) (by omega)
  by_cases q4 : ¬ dg L c (i + 3) < 10
  · rw [if_pos q4]
    exact ⟨by dsimp only; omega, fun T2 h => by cases h⟩
  rw [if_neg q4]
  have hi4 : i + 3 < L := dg_lt (c := c) (by omega)
  by_cases q5 : ¬ dg L c (i + 4) < 10 ∨ dg L c (i + 3) + dg L c (i + 4) = 0
  · rw [if_pos q5]
    exact ⟨by dsimp only; omega, fun T2 h => by cases h⟩
  rw [if_neg q5]
  have hi5 : i + 4 < L := dg_lt (c := c) (by omega)
  have hv2 := vK_add (l := 10 * dg L c (i + 3) + dg L c (i + 4)) hv (by omega) (by omega) ha hb hab (by omega) (by omega) hj
  by_cases q6 : i + 5 < L ∧ c (i + 5) = 120
  · rw [if_pos q6]
    refine ⟨by dsimp only; omega, fun T2 h => ?_⟩
    cases h
    refine ⟨vK_shut hv2 (by omega), ?_, ?_, by dsimp only; omega⟩
    · rw [tU_4]
      exact tA_01
    · rw [tU_4]
      exact tA_00
  · rw [if_neg q6]
    refine ⟨by dsimp only; omega, fun T2 h => ?_⟩
    cases h
    exact ⟨hv2, tA_01, tA_00, by dsimp only; omega⟩
theorem nn_p {p : Prop} (h : p) : ¬ ¬ p := fun v => v h
theorem chI_nn {i k : Nat} (ok : okX L c) (hk : k < 256) (h : ¬ (i < L ∧ c i = k)) : ¬ chI L c i = nI k := fun v => by
  rw [chI_ne ok hk h] at v
  exact v
theorem c_hasD {S : qSt} {i : Nat} (hT : isT S 13 T) (hv : vT T) : F5_hasCrossing 13 (dgI L c i) S = if dg L c i < T 0 0 then nI 1 else nI 0 := by
  have h9 := hv.2.1
  by_cases q : dg L c i < T 0 0
  · rw [if_pos q, dgI_y (by omega)]
    exact c_hasC_y hT.1 (by omega) q
  · rw [if_neg q]
    exact c_hasC_n hT.1 (by omega) (dgI_ne q (by omega))
theorem c_rds {S : qSt} {i n : Nat} (hx : cX S L c) (ok : okX L c) (hT : isT S 13 T) (hv : vT T) (hi : i ≤ L) (h3 : S 3 0 = nI i) (hn : 100 ≤ n) : ∃ S2, F6_readStreet n 13 S = some (nI (isO (rdS L c T i).2), S2) ∧ S2 3 0 = nI (rdS L c T i).1 ∧ kp [3, 13, 14, 15, 16, 17] S S2 ∧ ∀ T2, (rdS L c T i).2 = some T2 → isT S2 13 T2 := by
  have hL := ok.1
  have h9 := hv.2.1
  have h2 := hv.1
  have h20 := hv.2.2.1
  have hx1 : ∀ v, cX (qup S 3 0 v) L c := fun v => by
    unfold cX
    rw [qup_o _ _ _ (by omega), qup_o _ _ _ (by omega)]
    exact hx
  have hT1 : ∀ v, isT (qup S 3 0 v) 13 T := fun v => isT_cg hT (fun x a b => qup_o _ _ _ (by omega))
  have hd : ∀ v j, j < 1000 → F4_digitAt (nI j) (qup S 3 0 v) = some (dgI L c j) := fun v j hj => c_dig (hx1 v) ok hj
  have hh : ∀ v j, F5_hasCrossing 13 (dgI L c j) (qup S 3 0 v) = if dg L c j < T 0 0 then nI 1 else nI 0 := fun v j => c_hasD (hT1 v) hv
  have hk : ∀ v, kp [3, 13, 14, 15, 16, 17] S (qup S 3 0 v) := fun v => kp_up kp_rfl (by simp)
  have no : ∀ (T2 : Tn), (none : Option Tn) = some T2 → ∀ S2 : qSt, isT S2 13 T2 := fun T2 h => by cases h
  have z1 : ¬ nI 1 = (0 : Int32) := by decide +kernel
  have z0 : nI 0 = (0 : Int32) := rfl
  have n1 : nI i + 1 = nI (i + 1) := nI_1 i
  have n2 : nI (i + 1) + 1 = nI (i + 2) := nI_1 (i + 1)
  have n3 : nI (i + 2) + 1 = nI (i + 3) := nI_1 (i + 2)
  have n4 : nI (i + 3) + 1 = nI (i + 4) := nI_1 (i + 3)
  have n5 : nI (i + 4) + 1 = nI (i + 5) := nI_1 (i + 4)
  have n6 : nI (i + 5) + 1 = nI (i + 6) := nI_1 (i + 5)
  unfold F6_readStreet rdS
  rw [h3, c_code hx ok (by omega), ob1_s, c_tn hT hv (by omega)]
  by_cases q1 : i < L ∧ c i = 115
  case neg =>
    rw [if_pos (Or.inl q1), if_pos (show ¬ chI L c i = 115 from chI_nn (k := 115) ok (by omega) q1)]
    exact ⟨S, rfl, h3, kp_rfl, fun T2 h => no T2 h _⟩
  have e1 := chI_y q1
  rw [e1, if_neg (show ¬ ¬ nI 115 = (115 : Int32) from nn_p rfl)]
  by_cases q2 : 20 ≤ T 0 1 ∨ T 0 0 * (T 0 0 - 1) ≤ 2 * T 0 1
  · rw [if_pos (Or.inr q2), if_pos q2, if_neg z1]
    exact ⟨S, rfl, h3, kp_rfl, fun T2 h => no T2 h _⟩
  rw [if_neg (show ¬ (¬ (i < L ∧ c i = 115) ∨ 20 ≤ T 0 1 ∨ T 0 0 * (T 0 0 - 1) ≤ 2 * T 0 1) from fun w => w.elim (fun v => v q1) q2), if_neg q2, if_pos z0, obs1, n1, qup_s, hd _ (i + 1) (by omega), ob1_s, hh]
  by_cases qa : dg L c (i + 1) < T 0 0
  case neg =>
    rw [if_pos (Or.inl qa), if_neg qa, if_pos z0]
    exact ⟨qup S 3 0 (nI (i + 1)), rfl, qup_s .., hk _, fun T2 h => no T2 h _⟩
  have ea : dgI L c (i + 1) = nI (dg L c (i + 1)) := dgI_y (by omega)
  have hja := c_ja (n := n) (hT1 (nI (i + 1))) hv (by omega) (show dg L c (i + 1) < 9 by omega) hn
  rw [if_pos qa, if_neg z1, ea, hja, ob1_s]
  by_cases qj : T 0 0 - 1 ≤ cc (fun s => aN T s (dg L c (i + 1))) (T 0 1) 0
  · rw [if_pos (Or.inr qj), if_neg (show ¬ cc (fun s => aN T s (dg L c (i + 1))) (T 0 1) 0 < T 0 0 - 1 by omega), if_neg z1]
    exact ⟨qup S 3 0 (nI (i + 1)), rfl, qup_s .., hk _, fun T2 h => no T2 h _⟩
  rw [if_neg (show ¬ (¬ dg L c (i + 1) < T 0 0 ∨ T 0 0 - 1 ≤ cc (fun s => aN T s (dg L c (i + 1))) (T 0 1) 0) from fun w => w.elim (fun v => v qa) qj), if_pos (show cc (fun s => aN T s (dg L c (i + 1))) (T 0 1) 0 < T 0 0 - 1 by omega), if_pos z0, obs1, qup_s, n2, qup_qup, hd _ (i + 2) (by omega), ob1_s, hh]
  by_cases qb : dg L c (i + 2) < T 0 0
  case neg =>
    rw [if_pos (Or.inl qb), if_neg qb, if_pos z0]
    exact ⟨qup S 3 0 (nI (i + 2)), rfl, qup_s .., hk _, fun T2 h => no T2 h _⟩
  have eb : dgI L c (i + 2) = nI (dg L c (i + 2)) := dgI_y (by omega)
  rw [if_pos qb, if_neg z1, eb]
  by_cases qab : dg L c (i + 1) = dg L c (i + 2)
  · rw [if_pos (Or.inr (Or.inl qab)), if_pos (congrArg nI qab)]
    exact ⟨qup S 3 0 (nI (i + 2)), rfl, qup_s .., hk _, fun T2 h => no T2 h _⟩
  have hsj := c_sj (n := n) (hT1 (nI (i + 2))) hv (by omega) (show dg L c (i + 1) < 9 by omega) (show dg L c (i + 2) < 9 by omega) hn
  rw [if_neg (show ¬ nI (dg L c (i + 1)) = nI (dg L c (i + 2)) from fun v => qab (nI_inj (by omega) (by omega) v)), hsj, ob1_s]
  by_cases qt : tj T (dg L c (i + 1)) (dg L c (i + 2)) = nN
  case neg =>
    rw [if_pos (Or.inr (Or.inr qt)), if_neg (show ¬ tj T (dg L c (i + 1)) (dg L c (i + 2)) = (-999) from qt)]
    exact ⟨qup S 3 0 (nI (i + 2)), rfl, qup_s .., hk _, fun T2 h => no T2 h _⟩
  rw [if_neg (show ¬ (¬ dg L c (i + 2) < T 0 0 ∨ dg L c (i + 1) = dg L c (i + 2) ∨ tj T (dg L c (i + 1)) (dg L c (i + 2)) ≠ nN) from fun w => w.elim (fun v => v qb) (fun w => w.elim qab (fun v => v qt))), if_pos (show tj T (dg L c (i + 1)) (dg L c (i + 2)) = (-999) from qt), obs1, qup_s, n3, qup_qup, hd _ (i + 3) (by omega), ob1_s]
  by_cases qc : dg L c (i + 3) < 10
  case neg =>
    rw [if_pos qc, if_neg (show ¬ ¬ dgI L c (i + 3) = (-999) from nn_p (dgI_n qc))]
    exact ⟨qup S 3 0 (nI (i + 3)), rfl, qup_s .., hk _, fun T2 h => no T2 h _⟩
  have ec := dgI_y qc
  rw [if_neg (show ¬ ¬ dg L c (i + 3) < 10 from nn_p qc), if_pos (show ¬ dgI L c (i + 3) = (-999) from fun v => by
    rw [ec] at v
    exact nN_ne (by omega) v), obs1, qup_s, n4, qup_qup, hd _ (i + 4) (by omega), ob1_s]
  by_cases qd : dg L c (i + 4) < 10
  case neg =>
    rw [if_pos (Or.inl qd), if_pos (show dgI L c (i + 4) = (-999) from dgI_n qd)]
    exact ⟨qup S 3 0 (nI (i + 4)), rfl, qup_s .., hk _, fun T2 h => no T2 h _⟩
  have ed := dgI_y qd
  rw [if_neg (show ¬ dgI L c (i + 4) = (-999) from fun v => by
    rw [ed] at v
    exact nN_ne (by omega) v), ec, ed, nI_add]
  by_cases q0 : dg L c (i + 3) + dg L c (i + 4) = 0
  · rw [if_pos (Or.inr q0), if_neg (show ¬ ¬ nI (dg L c (i + 3) + dg L c (i + 4)) = (0 : Int32) from nn_p (congrArg nI q0))]
    exact ⟨qup S 3 0 (nI (i + 4)), rfl, qup_s .., hk _, fun T2 h => no T2 h _⟩
  obtain ⟨S5, e5, t5, k5⟩ := c_join_0 (n := n) (hT1 (nI (i + 5))) hv (by omega) qa qb qab (show 1 ≤ 10 * dg L c (i + 3) + dg L c (i + 4) by omega) (by omega) (by omega) qt hn
  have kk5 : kp [3, 13, 14, 15, 16, 17] S S5 := kp_tr (hk _) k5 (fun _ h => h) (by simp)
  have x5 : cX S5 L c := by
    unfold cX
    rw [kk5 1 (by decide), kk5 2 (by decide)]
    exact hx
  have a5 : S5 3 0 = nI (i + 5) := by
    rw [k5 3 (by decide)]
    exact qup_s ..
  have o5 := c_code x5 ok (show i + 5 < 1000 by omega)
  have m10 : 10 * nI (dg L c (i + 3)) + nI (dg L c (i + 4)) = nI (10 * dg L c (i + 3) + dg L c (i + 4)) := by
    rw [show (10 : Int32) = nI 10 from rfl, pk_mul, nI_add]
  rw [if_neg (show ¬ (¬ dg L c (i + 4) < 10 ∨ dg L c (i + 3) + dg L c (i + 4) = 0) from fun w => w.elim (fun v => v qd) q0), if_pos (show ¬ nI (dg L c (i + 3) + dg L c (i + 4)) = (0 : Int32) from nI_ne0 (by omega) (by omega)), obs1, n5, qup_qup, m10, e5, ob2_s, a5, o5, ob1_s]
  by_cases q6 : i + 5 < L ∧ c (i + 5) = 120
  · have t6 : isT (qup S5 3 0 (nI (i + 6))) 13 (tA T (dg L c (i + 1)) (dg L c (i + 2)) (10 * dg L c (i + 3) + dg L c (i + 4))) := isT_cg t5 (fun x a b => qup_o _ _ _ (by omega))
    have hv2 := vK_add (l := 10 * dg L c (i + 3) + dg L c (i + 4)) hv (by omega) (by omega) qa qb qab (by omega) (by omega) qt
    obtain ⟨S6, f6, t7, k7⟩ := c_shut_y (s := T 0 1) (b := 1) t6 hv2 (by omega) (by rw [tA_01]; omega) (by omega)
    have z : (qup S5 3 0 (nI (i + 6))) 13 1 = nI (T 0 1 + 1) := by
      have := t6.2.1
      rw [tA_01] at this
      exact this
    have z2 : nI (T 0 1 + 1) - 1 = nI (T 0 1) := nI_pred _
    rw [if_pos q6, chI_y q6, if_neg (show ¬ ¬ nI 120 = (120 : Int32) from nn_p rfl), obs1, n6, z, z2, show (1 : Int32) = nI 1 from rfl, f6, ob2_s]
    refine ⟨S6, rfl, ?_, kp_tr (kp_up kk5 (by simp)) k7 (fun _ h => h) (by simp), fun T2 h => ?_⟩
    · rw [k7 3 (by decide)]
      exact qup_s ..
    · cases h
      exact t7
  · rw [if_neg q6, if_pos (show ¬ chI L c (i + 5) = 120 from chI_nn (k := 120) ok (by omega) q6)]
    refine ⟨S5, rfl, a5, kk5, fun T2 h => ?_⟩
    cases h
    exact t5
end QRST
