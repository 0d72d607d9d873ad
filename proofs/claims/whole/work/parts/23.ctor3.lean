theorem ok_10 {g : qG} {S : qSt} {o n : Nat} (hk : kd o = (10, n)) (h : S o = fun _ => 0) : .inl (g.2.2.1 0, n, .inl fun _ => 0) = qmem g S o := by rw [qmem_10 hk, h]
theorem ok_11 {g : qG} {S : qSt} {o n : Nat} (hk : kd o = (11, n)) (h : S o = fun _ => 0) : .inl (g.2.2.1 1, n, .inl fun _ => 0) = qmem g S o := by rw [qmem_11 hk, h]
theorem qmix_0 (g : qG) (M : Nat → va_E) : qmix g 0 M = qmem g S0c := by
  funext q
  exact qmix_hi (Nat.zero_le q)
theorem q_hz {g : qG} {N : Nat} {hz hz1 : Nat → Prop} {nL : Nat} {p : Program} {l : Launch} {e : Env} {R : Room} {s : State} {m : MethodId} {args : Array Value} {below : List Frame} {meth : Method} {c : Code} {cells slots : Nat} {Q : State → Prop} {M : Nat → va_E} {pc : Nat} {lv : List (Nat × Value)} {rest : List Value} (h : ∀ k, hz k → hz1 k) (kk : qR g N hz1 nL p l e R s m args below meth c cells slots Q M pc lv rest) : qR g N hz nL p l e R s m args below meth c cells slots Q M pc lv rest :=
  fun H locs ls hP hh hS hl => kk H locs ls hP (h _ hh) hS hl
section
variable {l : Launch} {g : qG} {p : Program} {e : Env} {s : State} {m : MethodId} {args : Array Value} {below : List Frame} {meth : Method} {c : Code}
abbrev rmX7_init : Room := { frames := 3, cells := 110, slots := 2309, locals := 120 }
set_option maxRecDepth 100000 in
set_option maxHeartbeats 4000000 in
theorem kX7_init {l : Launch} {g : qG} (M : Nat → va_E) (e0 : M 0 = .inr (7, [.null, .null, .null, .null, .null, .null, .null, .null, .null])) : Met l yX7_init [.code yX7_init cX7_init 1 none] rmX7_init (qPc g 1 (qZ g 1) M [.ref (qa g 0)]) (qQv g 111 (qZ g 111) (qmem g S0c)) 110 2309 (qA g) := by
  refine q_met (by decide) (Nat.le_of_ble_eq_true rfl) (fun p e s m args below meth c C hr hnm => ?_)
  have hin : meth.name = "<init>" := hnm
  have C : qC g cX7_init RX7 1 p s m meth c := C
  obtain ⟨M0, hM0⟩ : ∃ z, z = M := ⟨_, rfl⟩
  rw [← hM0] at e0
  refine q_name hM0 ?_
  show qR g 1 (qZ g 1) 1 p l e rmX7_init s m args below meth c 0 0 (MQ below (qQv g 111 (qZ g 111) (qmem g S0c)) args s 110 2309 (qA g)) M0 0 [(0, .ref (qa g 0))] []
  have reg0 : ∀ q, 1 ≤ q → q < 1 → M0 q = qmem g S0c q := fun q h1 h2 => by omega
  refine q_aload_n C 0 dX7_init_0 rfl rfl ?_
  refine q_oinit C (qwi 71 (by decide +kernel) (by decide +kernel)) oiI oiC (Nat.le_of_ble_eq_true rfl) (Nat.le_of_ble_eq_true rfl) dX7_init_1 ?_
  refine q_aload_n C 0 dX7_init_4 rfl rfl ?_
  refine q_new (ci := 4) (q := (RX4, TX4, 2)) (fs := [.null, .int 0]) C rfl clk7_7 ins_4 ini_4 tyX4 tyX4_ok (by decide +kernel) ⟨Nat.le_of_ble_eq_true rfl, Nat.le_of_ble_eq_true rfl⟩ dX7_init_5 ?_
  show qR g 2 (qZ g 2) 1 p l e rmX7_init s m args below meth c 1 2 (MQ below (qQv g 111 (qZ g 111) (qmem g S0c)) args s 110 2309 (qA g)) (va_up M0 1 (.inr (4, [.null, .int 0]))) 8 [(0, .ref (qa g 0))] [.ref (qa g 1), .ref (qa g 0)]
  obtain ⟨A1, hA1⟩ : ∃ z, z = va_up M0 1 (.inr (4, [.null, .int 0])) := ⟨_, rfl⟩
  refine q_name hA1 ?_
  have f1 : A1 1 = .inr (4, [.null, .int 0]) := by rw [hA1]; exact va_up_self _ _ _
  have g1 : A1 0 = _ := (by rw [hA1]; exact va_up_ne _ _ (by omega) : A1 0 = M0 0).trans e0
  have r1 : ∀ q, 1 ≤ q → q < 1 → A1 q = qmem g S0c q := fun q h1 h2 => (by rw [hA1]; exact va_up_ne _ _ (by omega) : A1 q = M0 q).trans (reg0 q h1 h2)
  refine q_dup C dX7_init_8 rfl ?_
  refine q_callINv C (kX4_init A1 f1) lm7_9 rfl (rest := [.ref (qa g 1), .ref (qa g 0)]) rfl (Nat.le_of_ble_eq_true rfl) dX7_init_9 ⟨rfl, rfl, Nat.le_of_ble_eq_true rfl, Nat.le_of_ble_eq_true rfl, Nat.le_of_ble_eq_true rfl, Nat.le_of_ble_eq_true rfl⟩ ?_
  show qR g 3 (qZ g 3) 1 p l e rmX7_init s m args below meth c 2 142 (MQ below (qQv g 111 (qZ g 111) (qmem g S0c)) args s 110 2309 (qA g)) (qmix g 1 A1) 12 [(0, .ref (qa g 0))] [.ref (qa g 1), .ref (qa g 0)]
  obtain ⟨B1, hB1⟩ : ∃ z, z = qmix g 1 A1 := ⟨_, rfl⟩
  refine q_name hB1 ?_
  have gg1 : B1 0 = _ := (by rw [hB1]; exact qmix_lo (by omega) : B1 0 = A1 0).trans g1
  have rr1 : ∀ q, 1 ≤ q → q < 3 → B1 q = qmem g S0c q := by
    intro q h1 h2
    rw [hB1]
    by_cases h3 : q < 1
    · rw [qmix_lo h3]; exact r1 q h1 h3
    · exact qmix_hi (by omega)
  refine q_putF (o := 0) (ci := 7) (k := 0) (fs := [.null, .null, .null, .null, .null, .null, .null, .null, .null]) (v := .ref (qa g 1)) C (by omega) gg1 (rfl : vwCl[7]? = some (RX7, TX7, 9)) (Nat.le_of_ble_eq_true rfl) (qwi 232 (by decide +kernel) (by decide +kernel)) (by decide +kernel) hin rfl (tyX7_ok 0 (Nat.le_of_ble_eq_true rfl)) rfl rfl (Nat.le_of_ble_eq_true rfl) dX7_init_12 ?_
  show qR g 3 (qZ g 3) 1 p l e rmX7_init s m args below meth c 2 142 (MQ below (qQv g 111 (qZ g 111) (qmem g S0c)) args s 110 2309 (qA g)) (va_up B1 0 (.inr (7, [.ref (qa g 1), .null, .null, .null, .null, .null, .null, .null, .null]))) 15 [(0, .ref (qa g 0))] []
  obtain ⟨N1, hN1⟩ : ∃ z, z = va_up B1 0 (.inr (7, [.ref (qa g 1), .null, .null, .null, .null, .null, .null, .null, .null])) := ⟨_, rfl⟩
  refine q_name hN1 ?_
  have e0_1 : N1 0 = .inr (7, [.ref (qa g 1), .null, .null, .null, .null, .null, .null, .null, .null]) := by rw [hN1]; exact va_up_self _ _ _
  have reg1 : ∀ q, 1 ≤ q → q < 3 → N1 q = qmem g S0c q := fun q h1 h2 => (by rw [hN1]; exact va_up_ne _ _ (by omega) : N1 q = B1 q).trans (rr1 q h1 h2)
  refine q_aload_n C 0 dX7_init_15 rfl rfl ?_
  refine q_new (ci := 6) (q := (RX6, TX6, 1)) (fs := [.int 0]) C rfl clk7_16 ins_6 ini_6 tyX6 tyX6_ok (by decide +kernel) ⟨Nat.le_of_ble_eq_true rfl, Nat.le_of_ble_eq_true rfl⟩ dX7_init_16 ?_
  show qR g 4 (qZ g 4) 1 p l e rmX7_init s m args below meth c 3 143 (MQ below (qQv g 111 (qZ g 111) (qmem g S0c)) args s 110 2309 (qA g)) (va_up N1 3 (.inr (6, [.int 0]))) 19 [(0, .ref (qa g 0))] [.ref (qa g 3), .ref (qa g 0)]
  obtain ⟨A2, hA2⟩ : ∃ z, z = va_up N1 3 (.inr (6, [.int 0])) := ⟨_, rfl⟩
  refine q_name hA2 ?_
  have f2 : A2 3 = .inr (6, [.int 0]) := by rw [hA2]; exact va_up_self _ _ _
  have g2 : A2 0 = _ := (by rw [hA2]; exact va_up_ne _ _ (by omega) : A2 0 = N1 0).trans e0_1
  have r2 : ∀ q, 1 ≤ q → q < 3 → A2 q = qmem g S0c q := fun q h1 h2 => (by rw [hA2]; exact va_up_ne _ _ (by omega) : A2 q = N1 q).trans (reg1 q h1 h2)
  refine q_dup C dX7_init_19 rfl ?_
  refine q_callINv C (kX6_init A2 f2) lm7_18 rfl (rest := [.ref (qa g 3), .ref (qa g 0)]) rfl (Nat.le_of_ble_eq_true rfl) dX7_init_20 ⟨rfl, rfl, Nat.le_of_ble_eq_true rfl, Nat.le_of_ble_eq_true rfl, Nat.le_of_ble_eq_true rfl, Nat.le_of_ble_eq_true rfl⟩ ?_
  show qR g 4 (qZ g 4) 1 p l e rmX7_init s m args below meth c 3 143 (MQ below (qQv g 111 (qZ g 111) (qmem g S0c)) args s 110 2309 (qA g)) (qmix g 3 A2) 23 [(0, .ref (qa g 0))] [.ref (qa g 3), .ref (qa g 0)]
  obtain ⟨B2, hB2⟩ : ∃ z, z = qmix g 3 A2 := ⟨_, rfl⟩
  refine q_name hB2 ?_
  have gg2 : B2 0 = _ := (by rw [hB2]; exact qmix_lo (by omega) : B2 0 = A2 0).trans g2
  have rr2 : ∀ q, 1 ≤ q → q < 4 → B2 q = qmem g S0c q := by
    intro q h1 h2
    rw [hB2]
    by_cases h3 : q < 3
    · rw [qmix_lo h3]; exact r2 q h1 h3
    · exact qmix_hi (by omega)
  refine q_putF (o := 0) (ci := 7) (k := 1) (fs := [.ref (qa g 1), .null, .null, .null, .null, .null, .null, .null, .null]) (v := .ref (qa g 3)) C (by omega) gg2 (rfl : vwCl[7]? = some (RX7, TX7, 9)) (Nat.le_of_ble_eq_true rfl) (qwi 233 (by decide +kernel) (by decide +kernel)) (by decide +kernel) hin rfl (tyX7_ok 1 (Nat.le_of_ble_eq_true rfl)) rfl rfl (Nat.le_of_ble_eq_true rfl) dX7_init_23 ?_
  show qR g 4 (qZ g 4) 1 p l e rmX7_init s m args below meth c 3 143 (MQ below (qQv g 111 (qZ g 111) (qmem g S0c)) args s 110 2309 (qA g)) (va_up B2 0 (.inr (7, [.ref (qa g 1), .ref (qa g 3), .null, .null, .null, .null, .null, .null, .null]))) 26 [(0, .ref (qa g 0))] []
  obtain ⟨N2, hN2⟩ : ∃ z, z = va_up B2 0 (.inr (7, [.ref (qa g 1), .ref (qa g 3), .null, .null, .null, .null, .null, .null, .null])) := ⟨_, rfl⟩
  refine q_name hN2 ?_
  have e0_2 : N2 0 = .inr (7, [.ref (qa g 1), .ref (qa g 3), .null, .null, .null, .null, .null, .null, .null]) := by rw [hN2]; exact va_up_self _ _ _
  have reg2 : ∀ q, 1 ≤ q → q < 4 → N2 q = qmem g S0c q := fun q h1 h2 => (by rw [hN2]; exact va_up_ne _ _ (by omega) : N2 q = B2 q).trans (rr2 q h1 h2)
  refine q_aload_n C 0 dX7_init_26 rfl rfl ?_
  refine q_new (ci := 1) (q := (RX1, TX1, 5)) (fs := [.int 0, .null, .null, .null, .int 0]) C rfl clk7_23 ins_1 ini_1 tyX1 tyX1_ok (by decide +kernel) ⟨Nat.le_of_ble_eq_true rfl, Nat.le_of_ble_eq_true rfl⟩ dX7_init_27 ?_
  show qR g 5 (qZ g 5) 1 p l e rmX7_init s m args below meth c 4 148 (MQ below (qQv g 111 (qZ g 111) (qmem g S0c)) args s 110 2309 (qA g)) (va_up N2 4 (.inr (1, [.int 0, .null, .null, .null, .int 0]))) 30 [(0, .ref (qa g 0))] [.ref (qa g 4), .ref (qa g 0)]
  obtain ⟨A3, hA3⟩ : ∃ z, z = va_up N2 4 (.inr (1, [.int 0, .null, .null, .null, .int 0])) := ⟨_, rfl⟩
  refine q_name hA3 ?_
  have f3 : A3 4 = .inr (1, [.int 0, .null, .null, .null, .int 0]) := by rw [hA3]; exact va_up_self _ _ _
  have g3 : A3 0 = _ := (by rw [hA3]; exact va_up_ne _ _ (by omega) : A3 0 = N2 0).trans e0_2
  have r3 : ∀ q, 1 ≤ q → q < 4 → A3 q = qmem g S0c q := fun q h1 h2 => (by rw [hA3]; exact va_up_ne _ _ (by omega) : A3 q = N2 q).trans (reg2 q h1 h2)
  refine q_dup C dX7_init_30 rfl ?_
  refine q_callINv C (kX1_init A3 f3) lm7_25 rfl (rest := [.ref (qa g 4), .ref (qa g 0)]) rfl (Nat.le_of_ble_eq_true rfl) dX7_init_31 ⟨rfl, rfl, Nat.le_of_ble_eq_true rfl, Nat.le_of_ble_eq_true rfl, Nat.le_of_ble_eq_true rfl, Nat.le_of_ble_eq_true rfl⟩ ?_
  show qR g 8 (qZ g 8) 1 p l e rmX7_init s m args below meth c 7 568 (MQ below (qQv g 111 (qZ g 111) (qmem g S0c)) args s 110 2309 (qA g)) (qmix g 4 A3) 34 [(0, .ref (qa g 0))] [.ref (qa g 4), .ref (qa g 0)]
  obtain ⟨B3, hB3⟩ : ∃ z, z = qmix g 4 A3 := ⟨_, rfl⟩
  refine q_name hB3 ?_
  have gg3 : B3 0 = _ := (by rw [hB3]; exact qmix_lo (by omega) : B3 0 = A3 0).trans g3
  have rr3 : ∀ q, 1 ≤ q → q < 8 → B3 q = qmem g S0c q := by
    intro q h1 h2
    rw [hB3]
    by_cases h3 : q < 4
    · rw [qmix_lo h3]; exact r3 q h1 h3
    · exact qmix_hi (by omega)
  refine q_putF (o := 0) (ci := 7) (k := 2) (fs := [.ref (qa g 1), .ref (qa g 3), .null, .null, .null, .null, .null, .null, .null]) (v := .ref (qa g 4)) C (by omega) gg3 (rfl : vwCl[7]? = some (RX7, TX7, 9)) (Nat.le_of_ble_eq_true rfl) (qwi 234 (by decide +kernel) (by decide +kernel)) (by decide +kernel) hin rfl (tyX7_ok 2 (Nat.le_of_ble_eq_true rfl)) rfl rfl (Nat.le_of_ble_eq_true rfl) dX7_init_34 ?_
  show qR g 8 (qZ g 8) 1 p l e rmX7_init s m args below meth c 7 568 (MQ below (qQv g 111 (qZ g 111) (qmem g S0c)) args s 110 2309 (qA g)) (va_up B3 0 (.inr (7, [.ref (qa g 1), .ref (qa g 3), .ref (qa g 4), .null, .null, .null, .null, .null, .null]))) 37 [(0, .ref (qa g 0))] []
  obtain ⟨N3, hN3⟩ : ∃ z, z = va_up B3 0 (.inr (7, [.ref (qa g 1), .ref (qa g 3), .ref (qa g 4), .null, .null, .null, .null, .null, .null])) := ⟨_, rfl⟩
  refine q_name hN3 ?_
  have e0_3 : N3 0 = .inr (7, [.ref (qa g 1), .ref (qa g 3), .ref (qa g 4), .null, .null, .null, .null, .null, .null]) := by rw [hN3]; exact va_up_self _ _ _
  have reg3 : ∀ q, 1 ≤ q → q < 8 → N3 q = qmem g S0c q := fun q h1 h2 => (by rw [hN3]; exact va_up_ne _ _ (by omega) : N3 q = B3 q).trans (rr3 q h1 h2)
  refine q_aload_n C 0 dX7_init_37 rfl rfl ?_
  refine q_new (ci := 5) (q := (RX5, TX5, 8)) (fs := [.int 0, .int 0, .int 0, .int 0, .null, .null, .null, .null]) C rfl clk7_30 ins_5 ini_5 tyX5 tyX5_ok (by decide +kernel) ⟨Nat.le_of_ble_eq_true rfl, Nat.le_of_ble_eq_true rfl⟩ dX7_init_38 ?_
  show qR g 9 (qZ g 9) 1 p l e rmX7_init s m args below meth c 8 576 (MQ below (qQv g 111 (qZ g 111) (qmem g S0c)) args s 110 2309 (qA g)) (va_up N3 8 (.inr (5, [.int 0, .int 0, .int 0, .int 0, .null, .null, .null, .null]))) 41 [(0, .ref (qa g 0))] [.ref (qa g 8), .ref (qa g 0)]
  obtain ⟨A4, hA4⟩ : ∃ z, z = va_up N3 8 (.inr (5, [.int 0, .int 0, .int 0, .int 0, .null, .null, .null, .null])) := ⟨_, rfl⟩
  refine q_name hA4 ?_
  have f4 : A4 8 = .inr (5, [.int 0, .int 0, .int 0, .int 0, .null, .null, .null, .null]) := by rw [hA4]; exact va_up_self _ _ _
  have g4 : A4 0 = _ := (by rw [hA4]; exact va_up_ne _ _ (by omega) : A4 0 = N3 0).trans e0_3
  have r4 : ∀ q, 1 ≤ q → q < 8 → A4 q = qmem g S0c q := fun q h1 h2 => (by rw [hA4]; exact va_up_ne _ _ (by omega) : A4 q = N3 q).trans (reg3 q h1 h2)
  refine q_dup C dX7_init_41 rfl ?_
  refine q_callINv C (kX5_init 8 tyT_8 A4 f4) lm7_32 rfl (rest := [.ref (qa g 8), .ref (qa g 0)]) rfl (Nat.le_of_ble_eq_true rfl) dX7_init_42 ⟨rfl, rfl, Nat.le_of_ble_eq_true rfl, Nat.le_of_ble_eq_true rfl, Nat.le_of_ble_eq_true rfl, Nat.le_of_ble_eq_true rfl⟩ ?_
  show qR g 13 (qZ g 13) 1 p l e rmX7_init s m args below meth c 12 660 (MQ below (qQv g 111 (qZ g 111) (qmem g S0c)) args s 110 2309 (qA g)) (qmix g 8 A4) 45 [(0, .ref (qa g 0))] [.ref (qa g 8), .ref (qa g 0)]
  obtain ⟨B4, hB4⟩ : ∃ z, z = qmix g 8 A4 := ⟨_, rfl⟩
  refine q_name hB4 ?_
  have gg4 : B4 0 = _ := (by rw [hB4]; exact qmix_lo (by omega) : B4 0 = A4 0).trans g4
  have rr4 : ∀ q, 1 ≤ q → q < 13 → B4 q = qmem g S0c q := by
    intro q h1 h2
    rw [hB4]
    by_cases h3 : q < 8
    · rw [qmix_lo h3]; exact r4 q h1 h3
    · exact qmix_hi (by omega)
  refine q_putF (o := 0) (ci := 7) (k := 3) (fs := [.ref (qa g 1), .ref (qa g 3), .ref (qa g 4), .null, .null, .null, .null, .null, .null]) (v := .ref (qa g 8)) C (by omega) gg4 (rfl : vwCl[7]? = some (RX7, TX7, 9)) (Nat.le_of_ble_eq_true rfl) (qwi 235 (by decide +kernel) (by decide +kernel)) (by decide +kernel) hin rfl (tyX7_ok 3 (Nat.le_of_ble_eq_true rfl)) rfl rfl (Nat.le_of_ble_eq_true rfl) dX7_init_45 ?_
  show qR g 13 (qZ g 13) 1 p l e rmX7_init s m args below meth c 12 660 (MQ below (qQv g 111 (qZ g 111) (qmem g S0c)) args s 110 2309 (qA g)) (va_up B4 0 (.inr (7, [.ref (qa g 1), .ref (qa g 3), .ref (qa g 4), .ref (qa g 8), .null, .null, .null, .null, .null]))) 48 [(0, .ref (qa g 0))] []
  obtain ⟨N4, hN4⟩ : ∃ z, z = va_up B4 0 (.inr (7, [.ref (qa g 1), .ref (qa g 3), .ref (qa g 4), .ref (qa g 8), .null, .null, .null, .null, .null])) := ⟨_, rfl⟩
  refine q_name hN4 ?_
  have e0_4 : N4 0 = .inr (7, [.ref (qa g 1), .ref (qa g 3), .ref (qa g 4), .ref (qa g 8), .null, .null, .null, .null, .null]) := by rw [hN4]; exact va_up_self _ _ _
  have reg4 : ∀ q, 1 ≤ q → q < 13 → N4 q = qmem g S0c q := fun q h1 h2 => (by rw [hN4]; exact va_up_ne _ _ (by omega) : N4 q = B4 q).trans (rr4 q h1 h2)
  refine q_aload_n C 0 dX7_init_48 rfl rfl ?_
  refine q_new (ci := 5) (q := (RX5, TX5, 8)) (fs := [.int 0, .int 0, .int 0, .int 0, .null, .null, .null, .null]) C rfl clk7_30 ins_5 ini_5 tyX5 tyX5_ok (by decide +kernel) ⟨Nat.le_of_ble_eq_true rfl, Nat.le_of_ble_eq_true rfl⟩ dX7_init_49 ?_
  show qR g 14 (qZ g 14) 1 p l e rmX7_init s m args below meth c 13 668 (MQ below (qQv g 111 (qZ g 111) (qmem g S0c)) args s 110 2309 (qA g)) (va_up N4 13 (.inr (5, [.int 0, .int 0, .int 0, .int 0, .null, .null, .null, .null]))) 52 [(0, .ref (qa g 0))] [.ref (qa g 13), .ref (qa g 0)]
  obtain ⟨A5, hA5⟩ : ∃ z, z = va_up N4 13 (.inr (5, [.int 0, .int 0, .int 0, .int 0, .null, .null, .null, .null])) := ⟨_, rfl⟩
  refine q_name hA5 ?_
  have f5 : A5 13 = .inr (5, [.int 0, .int 0, .int 0, .int 0, .null, .null, .null, .null]) := by rw [hA5]; exact va_up_self _ _ _
  have g5 : A5 0 = _ := (by rw [hA5]; exact va_up_ne _ _ (by omega) : A5 0 = N4 0).trans e0_4
  have r5 : ∀ q, 1 ≤ q → q < 13 → A5 q = qmem g S0c q := fun q h1 h2 => (by rw [hA5]; exact va_up_ne _ _ (by omega) : A5 q = N4 q).trans (reg4 q h1 h2)
  refine q_dup C dX7_init_52 rfl ?_
  refine q_callINv C (kX5_init 13 tyT_13 A5 f5) lm7_32 rfl (rest := [.ref (qa g 13), .ref (qa g 0)]) rfl (Nat.le_of_ble_eq_true rfl) dX7_init_53 ⟨rfl, rfl, Nat.le_of_ble_eq_true rfl, Nat.le_of_ble_eq_true rfl, Nat.le_of_ble_eq_true rfl, Nat.le_of_ble_eq_true rfl⟩ ?_
  show qR g 18 (qZ g 18) 1 p l e rmX7_init s m args below meth c 17 752 (MQ below (qQv g 111 (qZ g 111) (qmem g S0c)) args s 110 2309 (qA g)) (qmix g 13 A5) 56 [(0, .ref (qa g 0))] [.ref (qa g 13), .ref (qa g 0)]
  obtain ⟨B5, hB5⟩ : ∃ z, z = qmix g 13 A5 := ⟨_, rfl⟩
  refine q_name hB5 ?_
  have gg5 : B5 0 = _ := (by rw [hB5]; exact qmix_lo (by omega) : B5 0 = A5 0).trans g5
  have rr5 : ∀ q, 1 ≤ q → q < 18 → B5 q = qmem g S0c q := by
    intro q h1 h2
    rw [hB5]
    by_cases h3 : q < 13
    · rw [qmix_lo h3]; exact r5 q h1 h3
    · exact qmix_hi (by omega)
  refine q_putF (o := 0) (ci := 7) (k := 4) (fs := [.ref (qa g 1), .ref (qa g 3), .ref (qa g 4), .ref (qa g 8), .null, .null, .null, .null, .null]) (v := .ref (qa g 13)) C (by omega) gg5 (rfl : vwCl[7]? = some (RX7, TX7, 9)) (Nat.le_of_ble_eq_true rfl) (qwi 236 (by decide +kernel) (by decide +kernel)) (by decide +kernel) hin rfl (tyX7_ok 4 (Nat.le_of_ble_eq_true rfl)) rfl rfl (Nat.le_of_ble_eq_true rfl) dX7_init_56 ?_
  show qR g 18 (qZ g 18) 1 p l e rmX7_init s m args below meth c 17 752 (MQ below (qQv g 111 (qZ g 111) (qmem g S0c)) args s 110 2309 (qA g)) (va_up B5 0 (.inr (7, [.ref (qa g 1), .ref (qa g 3), .ref (qa g 4), .ref (qa g 8), .ref (qa g 13), .null, .null, .null, .null]))) 59 [(0, .ref (qa g 0))] []
  obtain ⟨N5, hN5⟩ : ∃ z, z = va_up B5 0 (.inr (7, [.ref (qa g 1), .ref (qa g 3), .ref (qa g 4), .ref (qa g 8), .ref (qa g 13), .null, .null, .null, .null])) := ⟨_, rfl⟩
  refine q_name hN5 ?_
  have e0_5 : N5 0 = .inr (7, [.ref (qa g 1), .ref (qa g 3), .ref (qa g 4), .ref (qa g 8), .ref (qa g 13), .null, .null, .null, .null]) := by rw [hN5]; exact va_up_self _ _ _
  have reg5 : ∀ q, 1 ≤ q → q < 18 → N5 q = qmem g S0c q := fun q h1 h2 => (by rw [hN5]; exact va_up_ne _ _ (by omega) : N5 q = B5 q).trans (rr5 q h1 h2)
  refine q_aload_n C 0 dX7_init_59 rfl rfl ?_
  refine q_new (ci := 0) (q := (RX0, TX0, 3)) (fs := [.null, .int 0, .int 0]) C rfl clk7_40 ins_0 ini_0 tyX0 tyX0_ok (by decide +kernel) ⟨Nat.le_of_ble_eq_true rfl, Nat.le_of_ble_eq_true rfl⟩ dX7_init_60 ?_
  show qR g 19 (qZ g 19) 1 p l e rmX7_init s m args below meth c 18 755 (MQ below (qQv g 111 (qZ g 111) (qmem g S0c)) args s 110 2309 (qA g)) (va_up N5 18 (.inr (0, [.null, .int 0, .int 0]))) 63 [(0, .ref (qa g 0))] [.ref (qa g 18), .ref (qa g 0)]
  obtain ⟨A6, hA6⟩ : ∃ z, z = va_up N5 18 (.inr (0, [.null, .int 0, .int 0])) := ⟨_, rfl⟩
  refine q_name hA6 ?_
  have f6 : A6 18 = .inr (0, [.null, .int 0, .int 0]) := by rw [hA6]; exact va_up_self _ _ _
  have g6 : A6 0 = _ := (by rw [hA6]; exact va_up_ne _ _ (by omega) : A6 0 = N5 0).trans e0_5
  have r6 : ∀ q, 1 ≤ q → q < 18 → A6 q = qmem g S0c q := fun q h1 h2 => (by rw [hA6]; exact va_up_ne _ _ (by omega) : A6 q = N5 q).trans (reg5 q h1 h2)
  refine q_dup C dX7_init_63 rfl ?_
  refine q_callIv C (kX0_init A6 f6) lm7_42 rfl (rest := [.ref (qa g 18), .ref (qa g 0)]) rfl (Nat.le_of_ble_eq_true rfl) dX7_init_64 ⟨rfl, rfl, Nat.le_of_ble_eq_true rfl, Nat.le_of_ble_eq_true rfl, Nat.le_of_ble_eq_true rfl, Nat.le_of_ble_eq_true rfl⟩ ?_
  show qR g 90 (qZ g 90) 1 p l e rmX7_init s m args below meth c 89 2057 (MQ below (qQv g 111 (qZ g 111) (qmem g S0c)) args s 110 2309 (qA g)) (qmix g 18 A6) 67 [(0, .ref (qa g 0))] [.ref (qa g 18), .ref (qa g 0)]
  obtain ⟨B6, hB6⟩ : ∃ z, z = qmix g 18 A6 := ⟨_, rfl⟩
  refine q_name hB6 ?_
  have gg6 : B6 0 = _ := (by rw [hB6]; exact qmix_lo (by omega) : B6 0 = A6 0).trans g6
  have rr6 : ∀ q, 1 ≤ q → q < 90 → B6 q = qmem g S0c q := by
    intro q h1 h2
    rw [hB6]
    by_cases h3 : q < 18
    · rw [qmix_lo h3]; exact r6 q h1 h3
    · exact qmix_hi (by omega)
  refine q_putF (o := 0) (ci := 7) (k := 5) (fs := [.ref (qa g 1), .ref (qa g 3), .ref (qa g 4), .ref (qa g 8), .ref (qa g 13), .null, .null, .null, .null]) (v := .ref (qa g 18)) C (by omega) gg6 (rfl : vwCl[7]? = some (RX7, TX7, 9)) (Nat.le_of_ble_eq_true rfl) (qwi 237 (by decide +kernel) (by decide +kernel)) (by decide +kernel) hin rfl (tyX7_ok 5 (Nat.le_of_ble_eq_true rfl)) rfl rfl (Nat.le_of_ble_eq_true rfl) dX7_init_67 ?_
  show qR g 90 (qZ g 90) 1 p l e rmX7_init s m args below meth c 89 2057 (MQ below (qQv g 111 (qZ g 111) (qmem g S0c)) args s 110 2309 (qA g)) (va_up B6 0 (.inr (7, [.ref (qa g 1), .ref (qa g 3), .ref (qa g 4), .ref (qa g 8), .ref (qa g 13), .ref (qa g 18), .null, .null, .null]))) 70 [(0, .ref (qa g 0))] []
  obtain ⟨N6, hN6⟩ : ∃ z, z = va_up B6 0 (.inr (7, [.ref (qa g 1), .ref (qa g 3), .ref (qa g 4), .ref (qa g 8), .ref (qa g 13), .ref (qa g 18), .null, .null, .null])) := ⟨_, rfl⟩
  refine q_name hN6 ?_
  have e0_6 : N6 0 = .inr (7, [.ref (qa g 1), .ref (qa g 3), .ref (qa g 4), .ref (qa g 8), .ref (qa g 13), .ref (qa g 18), .null, .null, .null]) := by rw [hN6]; exact va_up_self _ _ _
  have reg6 : ∀ q, 1 ≤ q → q < 90 → N6 q = qmem g S0c q := fun q h1 h2 => (by rw [hN6]; exact va_up_ne _ _ (by omega) : N6 q = B6 q).trans (rr6 q h1 h2)
  refine q_aload_n C 0 dX7_init_70 rfl rfl ?_
  refine q_new (ci := 3) (q := (RX3, TX3, 2)) (fs := [.null, .null]) C rfl clk7_47 ins_3 ini_3 tyX3 tyX3_ok (by decide +kernel) ⟨Nat.le_of_ble_eq_true rfl, Nat.le_of_ble_eq_true rfl⟩ dX7_init_71 ?_
  show qR g 91 (qZ g 91) 1 p l e rmX7_init s m args below meth c 90 2059 (MQ below (qQv g 111 (qZ g 111) (qmem g S0c)) args s 110 2309 (qA g)) (va_up N6 90 (.inr (3, [.null, .null]))) 74 [(0, .ref (qa g 0))] [.ref (qa g 90), .ref (qa g 0)]
  obtain ⟨A7, hA7⟩ : ∃ z, z = va_up N6 90 (.inr (3, [.null, .null])) := ⟨_, rfl⟩
  refine q_name hA7 ?_
  have f7 : A7 90 = .inr (3, [.null, .null]) := by rw [hA7]; exact va_up_self _ _ _
  have g7 : A7 0 = _ := (by rw [hA7]; exact va_up_ne _ _ (by omega) : A7 0 = N6 0).trans e0_6
  have r7 : ∀ q, 1 ≤ q → q < 90 → A7 q = qmem g S0c q := fun q h1 h2 => (by rw [hA7]; exact va_up_ne _ _ (by omega) : A7 q = N6 q).trans (reg6 q h1 h2)
  refine q_dup C dX7_init_74 rfl ?_
  refine q_callIv C (kX3_init A7 f7) lm7_49 rfl (rest := [.ref (qa g 90), .ref (qa g 0)]) rfl (Nat.le_of_ble_eq_true rfl) dX7_init_75 ⟨rfl, rfl, Nat.le_of_ble_eq_true rfl, Nat.le_of_ble_eq_true rfl, Nat.le_of_ble_eq_true rfl, Nat.le_of_ble_eq_true rfl⟩ ?_
  show qR g 103 (qZ g 103) 1 p l e rmX7_init s m args below meth c 102 2247 (MQ below (qQv g 111 (qZ g 111) (qmem g S0c)) args s 110 2309 (qA g)) (qmix g 90 A7) 78 [(0, .ref (qa g 0))] [.ref (qa g 90), .ref (qa g 0)]
  obtain ⟨B7, hB7⟩ : ∃ z, z = qmix g 90 A7 := ⟨_, rfl⟩
  refine q_name hB7 ?_
  have gg7 : B7 0 = _ := (by rw [hB7]; exact qmix_lo (by omega) : B7 0 = A7 0).trans g7
  have rr7 : ∀ q, 1 ≤ q → q < 103 → B7 q = qmem g S0c q := by
    intro q h1 h2
    rw [hB7]
    by_cases h3 : q < 90
    · rw [qmix_lo h3]; exact r7 q h1 h3
    · exact qmix_hi (by omega)
  refine q_putF (o := 0) (ci := 7) (k := 6) (fs := [.ref (qa g 1), .ref (qa g 3), .ref (qa g 4), .ref (qa g 8), .ref (qa g 13), .ref (qa g 18), .null, .null, .null]) (v := .ref (qa g 90)) C (by omega) gg7 (rfl : vwCl[7]? = some (RX7, TX7, 9)) (Nat.le_of_ble_eq_true rfl) (qwi 238 (by decide +kernel) (by decide +kernel)) (by decide +kernel) hin rfl (tyX7_ok 6 (Nat.le_of_ble_eq_true rfl)) rfl rfl (Nat.le_of_ble_eq_true rfl) dX7_init_78 ?_
  show qR g 103 (qZ g 103) 1 p l e rmX7_init s m args below meth c 102 2247 (MQ below (qQv g 111 (qZ g 111) (qmem g S0c)) args s 110 2309 (qA g)) (va_up B7 0 (.inr (7, [.ref (qa g 1), .ref (qa g 3), .ref (qa g 4), .ref (qa g 8), .ref (qa g 13), .ref (qa g 18), .ref (qa g 90), .null, .null]))) 81 [(0, .ref (qa g 0))] []
  obtain ⟨N7, hN7⟩ : ∃ z, z = va_up B7 0 (.inr (7, [.ref (qa g 1), .ref (qa g 3), .ref (qa g 4), .ref (qa g 8), .ref (qa g 13), .ref (qa g 18), .ref (qa g 90), .null, .null])) := ⟨_, rfl⟩
  refine q_name hN7 ?_
  have e0_7 : N7 0 = .inr (7, [.ref (qa g 1), .ref (qa g 3), .ref (qa g 4), .ref (qa g 8), .ref (qa g 13), .ref (qa g 18), .ref (qa g 90), .null, .null]) := by rw [hN7]; exact va_up_self _ _ _
  have reg7 : ∀ q, 1 ≤ q → q < 103 → N7 q = qmem g S0c q := fun q h1 h2 => (by rw [hN7]; exact va_up_ne _ _ (by omega) : N7 q = B7 q).trans (rr7 q h1 h2)
  refine q_aload_n C 0 dX7_init_81 rfl rfl ?_
  refine q_new (ci := 2) (q := (RX2, TX2, 4)) (fs := [.null, .null, .null, .int 0]) C rfl clk7_54 ins_2 ini_2 tyX2 tyX2_ok (by decide +kernel) ⟨Nat.le_of_ble_eq_true rfl, Nat.le_of_ble_eq_true rfl⟩ dX7_init_82 ?_
  show qR g 104 (qZ g 104) 1 p l e rmX7_init s m args below meth c 103 2251 (MQ below (qQv g 111 (qZ g 111) (qmem g S0c)) args s 110 2309 (qA g)) (va_up N7 103 (.inr (2, [.null, .null, .null, .int 0]))) 85 [(0, .ref (qa g 0))] [.ref (qa g 103), .ref (qa g 0)]
  obtain ⟨A8, hA8⟩ : ∃ z, z = va_up N7 103 (.inr (2, [.null, .null, .null, .int 0])) := ⟨_, rfl⟩
  refine q_name hA8 ?_
  have f8 : A8 103 = .inr (2, [.null, .null, .null, .int 0]) := by rw [hA8]; exact va_up_self _ _ _
  have g8 : A8 0 = _ := (by rw [hA8]; exact va_up_ne _ _ (by omega) : A8 0 = N7 0).trans e0_7
  have r8 : ∀ q, 1 ≤ q → q < 103 → A8 q = qmem g S0c q := fun q h1 h2 => (by rw [hA8]; exact va_up_ne _ _ (by omega) : A8 q = N7 q).trans (reg7 q h1 h2)
  refine q_dup C dX7_init_85 rfl ?_
  refine q_callINv C (kX2_init 103 tyR_103 A8 f8) lm7_56 rfl (rest := [.ref (qa g 103), .ref (qa g 0)]) rfl (Nat.le_of_ble_eq_true rfl) dX7_init_86 ⟨rfl, rfl, Nat.le_of_ble_eq_true rfl, Nat.le_of_ble_eq_true rfl, Nat.le_of_ble_eq_true rfl, Nat.le_of_ble_eq_true rfl⟩ ?_
  show qR g 107 (qZ g 107) 1 p l e rmX7_init s m args below meth c 106 2278 (MQ below (qQv g 111 (qZ g 111) (qmem g S0c)) args s 110 2309 (qA g)) (qmix g 103 A8) 89 [(0, .ref (qa g 0))] [.ref (qa g 103), .ref (qa g 0)]
  obtain ⟨B8, hB8⟩ : ∃ z, z = qmix g 103 A8 := ⟨_, rfl⟩
  refine q_name hB8 ?_
  have gg8 : B8 0 = _ := (by rw [hB8]; exact qmix_lo (by omega) : B8 0 = A8 0).trans g8
  have rr8 : ∀ q, 1 ≤ q → q < 107 → B8 q = qmem g S0c q := by
    intro q h1 h2
    rw [hB8]
    by_cases h3 : q < 103
    · rw [qmix_lo h3]; exact r8 q h1 h3
    · exact qmix_hi (by omega)
  refine q_putF (o := 0) (ci := 7) (k := 7) (fs := [.ref (qa g 1), .ref (qa g 3), .ref (qa g 4), .ref (qa g 8), .ref (qa g 13), .ref (qa g 18), .ref (qa g 90), .null, .null]) (v := .ref (qa g 103)) C (by omega) gg8 (rfl : vwCl[7]? = some (RX7, TX7, 9)) (Nat.le_of_ble_eq_true rfl) (qwi 239 (by decide +kernel) (by decide +kernel)) (by decide +kernel) hin rfl (tyX7_ok 7 (Nat.le_of_ble_eq_true rfl)) rfl rfl (Nat.le_of_ble_eq_true rfl) dX7_init_89 ?_
  show qR g 107 (qZ g 107) 1 p l e rmX7_init s m args below meth c 106 2278 (MQ below (qQv g 111 (qZ g 111) (qmem g S0c)) args s 110 2309 (qA g)) (va_up B8 0 (.inr (7, [.ref (qa g 1), .ref (qa g 3), .ref (qa g 4), .ref (qa g 8), .ref (qa g 13), .ref (qa g 18), .ref (qa g 90), .ref (qa g 103), .null]))) 92 [(0, .ref (qa g 0))] []
  obtain ⟨N8, hN8⟩ : ∃ z, z = va_up B8 0 (.inr (7, [.ref (qa g 1), .ref (qa g 3), .ref (qa g 4), .ref (qa g 8), .ref (qa g 13), .ref (qa g 18), .ref (qa g 90), .ref (qa g 103), .null])) := ⟨_, rfl⟩
  refine q_name hN8 ?_
  have e0_8 : N8 0 = .inr (7, [.ref (qa g 1), .ref (qa g 3), .ref (qa g 4), .ref (qa g 8), .ref (qa g 13), .ref (qa g 18), .ref (qa g 90), .ref (qa g 103), .null]) := by rw [hN8]; exact va_up_self _ _ _
  have reg8 : ∀ q, 1 ≤ q → q < 107 → N8 q = qmem g S0c q := fun q h1 h2 => (by rw [hN8]; exact va_up_ne _ _ (by omega) : N8 q = B8 q).trans (rr8 q h1 h2)
  refine q_aload_n C 0 dX7_init_92 rfl rfl ?_
  refine q_new (ci := 2) (q := (RX2, TX2, 4)) (fs := [.null, .null, .null, .int 0]) C rfl clk7_54 ins_2 ini_2 tyX2 tyX2_ok (by decide +kernel) ⟨Nat.le_of_ble_eq_true rfl, Nat.le_of_ble_eq_true rfl⟩ dX7_init_93 ?_
  show qR g 108 (qZ g 108) 1 p l e rmX7_init s m args below meth c 107 2282 (MQ below (qQv g 111 (qZ g 111) (qmem g S0c)) args s 110 2309 (qA g)) (va_up N8 107 (.inr (2, [.null, .null, .null, .int 0]))) 96 [(0, .ref (qa g 0))] [.ref (qa g 107), .ref (qa g 0)]
  obtain ⟨A9, hA9⟩ : ∃ z, z = va_up N8 107 (.inr (2, [.null, .null, .null, .int 0])) := ⟨_, rfl⟩
  refine q_name hA9 ?_
  have f9 : A9 107 = .inr (2, [.null, .null, .null, .int 0]) := by rw [hA9]; exact va_up_self _ _ _
  have g9 : A9 0 = _ := (by rw [hA9]; exact va_up_ne _ _ (by omega) : A9 0 = N8 0).trans e0_8
  have r9 : ∀ q, 1 ≤ q → q < 107 → A9 q = qmem g S0c q := fun q h1 h2 => (by rw [hA9]; exact va_up_ne _ _ (by omega) : A9 q = N8 q).trans (reg8 q h1 h2)
  refine q_dup C dX7_init_96 rfl ?_
  refine q_callINv C (kX2_init 107 tyR_107 A9 f9) lm7_56 rfl (rest := [.ref (qa g 107), .ref (qa g 0)]) rfl (Nat.le_of_ble_eq_true rfl) dX7_init_97 ⟨rfl, rfl, Nat.le_of_ble_eq_true rfl, Nat.le_of_ble_eq_true rfl, Nat.le_of_ble_eq_true rfl, Nat.le_of_ble_eq_true rfl⟩ ?_
  show qR g 111 (qZ g 111) 1 p l e rmX7_init s m args below meth c 110 2309 (MQ below (qQv g 111 (qZ g 111) (qmem g S0c)) args s 110 2309 (qA g)) (qmix g 107 A9) 100 [(0, .ref (qa g 0))] [.ref (qa g 107), .ref (qa g 0)]
  obtain ⟨B9, hB9⟩ : ∃ z, z = qmix g 107 A9 := ⟨_, rfl⟩
  refine q_name hB9 ?_
  have gg9 : B9 0 = _ := (by rw [hB9]; exact qmix_lo (by omega) : B9 0 = A9 0).trans g9
  have rr9 : ∀ q, 1 ≤ q → q < 111 → B9 q = qmem g S0c q := by
    intro q h1 h2
    rw [hB9]
    by_cases h3 : q < 107
    · rw [qmix_lo h3]; exact r9 q h1 h3
    · exact qmix_hi (by omega)
  refine q_putF (o := 0) (ci := 7) (k := 8) (fs := [.ref (qa g 1), .ref (qa g 3), .ref (qa g 4), .ref (qa g 8), .ref (qa g 13), .ref (qa g 18), .ref (qa g 90), .ref (qa g 103), .null]) (v := .ref (qa g 107)) C (by omega) gg9 (rfl : vwCl[7]? = some (RX7, TX7, 9)) (Nat.le_of_ble_eq_true rfl) (qwi 240 (by decide +kernel) (by decide +kernel)) (by decide +kernel) hin rfl (tyX7_ok 8 (Nat.le_of_ble_eq_true rfl)) rfl rfl (Nat.le_of_ble_eq_true rfl) dX7_init_100 ?_
  show qR g 111 (qZ g 111) 1 p l e rmX7_init s m args below meth c 110 2309 (MQ below (qQv g 111 (qZ g 111) (qmem g S0c)) args s 110 2309 (qA g)) (va_up B9 0 (.inr (7, [.ref (qa g 1), .ref (qa g 3), .ref (qa g 4), .ref (qa g 8), .ref (qa g 13), .ref (qa g 18), .ref (qa g 90), .ref (qa g 103), .ref (qa g 107)]))) 103 [(0, .ref (qa g 0))] []
  obtain ⟨N9, hN9⟩ : ∃ z, z = va_up B9 0 (.inr (7, [.ref (qa g 1), .ref (qa g 3), .ref (qa g 4), .ref (qa g 8), .ref (qa g 13), .ref (qa g 18), .ref (qa g 90), .ref (qa g 103), .ref (qa g 107)])) := ⟨_, rfl⟩
  refine q_name hN9 ?_
  have e0_9 : N9 0 = .inr (7, [.ref (qa g 1), .ref (qa g 3), .ref (qa g 4), .ref (qa g 8), .ref (qa g 13), .ref (qa g 18), .ref (qa g 90), .ref (qa g 103), .ref (qa g 107)]) := by rw [hN9]; exact va_up_self _ _ _
  have reg9 : ∀ q, 1 ≤ q → q < 111 → N9 q = qmem g S0c q := fun q h1 h2 => (by rw [hN9]; exact va_up_ne _ _ (by omega) : N9 q = B9 q).trans (rr9 q h1 h2)
  refine q_kret C hr (fun q hq => ?_) (Nat.le_refl _) (Nat.le_refl _) dX7_init_103
  by_cases h : 1 ≤ q
  · exact reg9 q h hq
  · have h9 : q = 0 := by omega
    rw [h9, e0_9, qmem_o kd_0 (by decide)]
    rfl
end
section
variable {l : Launch} {g : qG} {p : Program} {e : Env} {s : State} {m : MethodId} {args : Array Value} {below : List Frame} {meth : Method} {c : Code}
abbrev rnX8_clear : Room := { frames := 0, cells := 0, slots := 0, locals := 0 }
def Dc8_clear_18 (n : Nat) (v1 : Int32) (S : qSt) : Option qSt := some (qup S 114 (0 : Int32).toNatClampNeg v1)
set_option maxRecDepth 100000 in
set_option maxHeartbeats 4000000 in
theorem Vc8_clear_18 {S2 : qSt} (C : qC g cX8_clear RX8 3 p s m meth c) (hr : meth.sig.returnType = none) (n : Nat) (v1 : Int32) (S : qSt) (h : Dc8_clear_18 n v1 S = some S2) : qR g 126 (qZ g 126) 3 p l e rnX8_clear s m args below meth c 0 0 (MQ below (qQv g 126 (qZ g 126) (qmem g S2)) args s 0 0 (qA g)) (qmem g S) 18 [(0, .ref (qa g 114)), (1, .int v1)] [] := by
  unfold Dc8_clear_18 at h
  refine q_aload_n C 0 dX8_clear_18 rfl rfl ?_
  refine q_iconst (v := 0) C dX8_clear_19 (by decide) ?_
  refine q_iload_n C 1 dX8_clear_20 rfl rfl ?_
  refine s_iast C (by decide : 114 < 126) kd_114 (by decide) dX8_clear_21 ?_
  obtain rfl := Option.some.inj h
  exact q_vret C hr (Nat.le_refl 0) (Nat.le_refl 0) dX8_clear_22
def Dc8_clear_2 (n : Nat) : Nat → Int32 → Int32 → qSt → Option qSt
  | 0, _, _, _ => none
  | n9 + 1, v1, v2, S => if 84 ≤ v2 then (Dc8_clear_18 n v1 S) else (if qin v2 84 = true then obs (qup S 114 v2.toNatClampNeg (0 : Int32)) fun S2 => (Dc8_clear_2 n n9) v1 (v2 + 1) S2 else none)
set_option maxRecDepth 100000 in
set_option maxHeartbeats 4000000 in
theorem Vc8_clear_2 {S2 : qSt} (C : qC g cX8_clear RX8 3 p s m meth c) (hr : meth.sig.returnType = none) (n : Nat) : ∀ (n9 : Nat) (v1 : Int32) (v2 : Int32) (S : qSt), Dc8_clear_2 n n9 v1 v2 S = some S2 → qR g 126 (qZ g 126) 3 p l e rnX8_clear s m args below meth c 0 0 (MQ below (qQv g 126 (qZ g 126) (qmem g S2)) args s 0 0 (qA g)) (qmem g S) 2 [(0, .ref (qa g 114)), (1, .int v1), (2, .int v2)] [] := by
  intro n9
  induction n9 with
  | zero =>
    intro v1 v2 S h
    have h9 : (none : Option qSt) = some S2 := h
    cases h9
  | succ n9 ih =>
    intro v1 v2 S h
    rw [Dc8_clear_2] at h
    refine q_iload_n C 2 dX8_clear_2 rfl rfl ?_
    refine q_bipush (v := 84) C dX8_clear_3 (by decide) ?_
    refine q_icmp_ge (tgt := 18) C h dX8_clear_5 (by decide) (fun h => ?_) (fun h => ?_)
    · refine q_norm [0, 1] rfl ?_
      exact Vc8_clear_18 C hr n v1 S h
    · refine q_aload_n C 0 dX8_clear_8 rfl rfl ?_
      refine q_iload_n C 2 dX8_clear_9 rfl rfl ?_
      refine q_iconst (v := 0) C dX8_clear_10 (by decide) ?_
      obtain ⟨hb1, h⟩ := q_if h
      obtain ⟨S2, hS2, h⟩ := obs_e h
      refine s_iast C (by decide : 114 < 126) kd_114 hb1 dX8_clear_11 ?_
      rw [← hS2]
      refine q_iinc C 2 (v := v2 + 1) (lv' := [(2, .int (v2 + 1)), (0, .ref (qa g 114)), (1, .int v1)]) dX8_clear_12 rfl rfl (by decide) rfl ?_
      refine q_norm [1, 2, 0] rfl ?_
      refine q_goto (tgt := 2) C dX8_clear_15 (by decide) ?_
      exact ih v1 (v2 + 1) S2 h
def Gc8_clear (n : Nat) (v1 : Int32) (S : qSt) : Option qSt := Dc8_clear_2 n n v1 0 S
set_option maxRecDepth 100000 in
set_option maxHeartbeats 4000000 in
theorem jX8_clear {l : Launch} {g : qG} (n : Nat) (v1 : Int32) (S : qSt) {S2 : qSt} (h : Gc8_clear n v1 S = some S2) : Met l yX8_clear [.code yX8_clear cX8_clear 3 none] rnX8_clear (qPc g 126 (qZ g 126) (qmem g S) [.ref (qa g 114), .int v1]) (qQv g 126 (qZ g 126) (qmem g S2)) 0 0 (qA g) := by
  refine q_met (by decide) (Nat.le_of_ble_eq_true rfl) (fun p e s m args below meth c C hr _ => ?_)
  have C : qC g cX8_clear RX8 3 p s m meth c := C
  show qR g 126 (qZ g 126) 3 p l e rnX8_clear s m args below meth c 0 0 (MQ below (qQv g 126 (qZ g 126) (qmem g S2)) args s 0 0 (qA g)) (qmem g S) 0 [(0, .ref (qa g 114)), (1, .int v1)] []
  unfold Gc8_clear at h
  refine q_iconst (v := 0) C dX8_clear_0 (by decide) ?_
  refine q_istore_n C (lv' := [(2, .int 0), (0, .ref (qa g 114)), (1, .int v1)]) dX8_clear_1 rfl (by decide) rfl ?_
  refine q_norm [1, 2, 0] rfl ?_
  exact Vc8_clear_2 C hr n n v1 0 S h
abbrev rnX8_tell : Room := { frames := 0, cells := 0, slots := 0, locals := 0 }
def Gc8_tell (v1 : Int32) (v2 : Int32) (v3 : Int32) (v4 : Int32) (v5 : Int32) (v6 : Int32) (S : qSt) : Option qSt := if qin v1 25 = true then obs (qup S 119 v1.toNatClampNeg v2) fun S2 => if qin (v1 + 1) 25 = true then obs (qup S2 119 (v1 + 1).toNatClampNeg v3) fun S4 => if qin (v1 + 2) 25 = true then obs (qup S4 119 (v1 + 2).toNatClampNeg v4) fun S6 => if qin (v1 + 3) 25 = true then obs (qup S6 119 (v1 + 3).toNatClampNeg v5) fun S8 => if qin (v1 + 4) 25 = true then some (qup S8 119 (v1 + 4).toNatClampNeg v6) else none else none else none else none else none
set_option maxRecDepth 100000 in
set_option maxHeartbeats 4000000 in
theorem jX8_tell {l : Launch} {g : qG} (v1 : Int32) (v2 : Int32) (v3 : Int32) (v4 : Int32) (v5 : Int32) (v6 : Int32) (S : qSt) {S2 : qSt} (h : Gc8_tell v1 v2 v3 v4 v5 v6 S = some S2) : Met l yX8_tell [.code yX8_tell cX8_tell 7 none] rnX8_tell (qPc g 126 (qZ g 126) (qmem g S) [.ref (qa g 111), .int v1, .int v2, .int v3, .int v4, .int v5, .int v6]) (qQv g 126 (qZ g 126) (qmem g S2)) 0 0 (qA g) := by
  refine q_met (by decide) (Nat.le_of_ble_eq_true rfl) (fun p e s m args below meth c C hr _ => ?_)
  have C : qC g cX8_tell RX8 7 p s m meth c := C
  show qR g 126 (qZ g 126) 7 p l e rnX8_tell s m args below meth c 0 0 (MQ below (qQv g 126 (qZ g 126) (qmem g S2)) args s 0 0 (qA g)) (qmem g S) 0 [(0, .ref (qa g 111)), (1, .int v1), (2, .int v2), (3, .int v3), (4, .int v4), (5, .int v5), (6, .int v6)] []
  unfold Gc8_tell at h
  refine q_aload_n C 0 dX8_tell_0 rfl rfl ?_
  refine s_getr (a := 119) C lf8_32 (by decide : 111 < 126) kd_111 rfl dX8_tell_1 ?_
  refine q_iload_n C 1 dX8_tell_4 rfl rfl ?_
  refine q_iload_n C 2 dX8_tell_5 rfl rfl ?_
  obtain ⟨hb1, h⟩ := q_if h
  obtain ⟨S2, hS2, h⟩ := obs_e h
  refine s_iast C (by decide : 119 < 126) kd_119 hb1 dX8_tell_6 ?_
  rw [← hS2]
  refine q_aload_n C 0 dX8_tell_7 rfl rfl ?_
  refine s_getr (a := 119) C lf8_32 (by decide : 111 < 126) kd_111 rfl dX8_tell_8 ?_
  refine q_iload_n C 1 dX8_tell_11 rfl rfl ?_
  refine q_iconst (v := 1) C dX8_tell_12 (by decide) ?_
  refine q_iadd C dX8_tell_13 ?_
  refine q_iload_n C 3 dX8_tell_14 rfl rfl ?_
  obtain ⟨hb3, h⟩ := q_if h
  obtain ⟨S4, hS4, h⟩ := obs_e h
  refine s_iast C (by decide : 119 < 126) kd_119 hb3 dX8_tell_15 ?_
  rw [← hS4]
  refine q_aload_n C 0 dX8_tell_16 rfl rfl ?_
  refine s_getr (a := 119) C lf8_32 (by decide : 111 < 126) kd_111 rfl dX8_tell_17 ?_
  refine q_iload_n C 1 dX8_tell_20 rfl rfl ?_
  refine q_iconst (v := 2) C dX8_tell_21 (by decide) ?_
  refine q_iadd C dX8_tell_22 ?_
  refine q_iload C 4 dX8_tell_23 rfl ?_
  obtain ⟨hb5, h⟩ := q_if h
  obtain ⟨S6, hS6, h⟩ := obs_e h
  refine s_iast C (by decide : 119 < 126) kd_119 hb5 dX8_tell_25 ?_
  rw [← hS6]
  refine q_aload_n C 0 dX8_tell_26 rfl rfl ?_
  refine s_getr (a := 119) C lf8_32 (by decide : 111 < 126) kd_111 rfl dX8_tell_27 ?_
  refine q_iload_n C 1 dX8_tell_30 rfl rfl ?_
  refine q_iconst (v := 3) C dX8_tell_31 (by decide) ?_
  refine q_iadd C dX8_tell_32 ?_
  refine q_iload C 5 dX8_tell_33 rfl ?_
  obtain ⟨hb7, h⟩ := q_if h
  obtain ⟨S8, hS8, h⟩ := obs_e h
  refine s_iast C (by decide : 119 < 126) kd_119 hb7 dX8_tell_35 ?_
  rw [← hS8]
  refine q_aload_n C 0 dX8_tell_36 rfl rfl ?_
  refine s_getr (a := 119) C lf8_32 (by decide : 111 < 126) kd_111 rfl dX8_tell_37 ?_
  refine q_iload_n C 1 dX8_tell_40 rfl rfl ?_
  refine q_iconst (v := 4) C dX8_tell_41 (by decide) ?_
  refine q_iadd C dX8_tell_42 ?_
  refine q_iload C 6 dX8_tell_43 rfl ?_
  obtain ⟨hb9, h⟩ := q_if h
  refine s_iast C (by decide : 119 < 126) kd_119 hb9 dX8_tell_45 ?_
  obtain rfl := Option.some.inj h
  exact q_vret C hr (Nat.le_refl 0) (Nat.le_refl 0) dX8_tell_46
def ctorTail (n : Nat) (S : qSt) : Option qSt := ob1 (Gc8_clear n 2 S) fun S2 => obs (qup S2 114 (3 : Int32).toNatClampNeg (1 : Int32)) fun S3 => ob1 (Gc8_tell 0 111 112 101 110 0 S3) fun S5 => ob1 (Gc8_tell 5 99 108 111 115 101 S5) fun S7 => ob1 (Gc8_tell 10 108 111 110 103 0 S7) fun S9 => ob1 (Gc8_tell 15 101 110 100 115 0 S9) fun S11 => ob1 (Gc8_tell 20 116 117 114 110 0 S11) fun S13 => some S13
abbrev rmX8_init : Room := { frames := 2, cells := 14, slots := 1891, locals := 80 }
set_option maxRecDepth 100000 in
set_option maxHeartbeats 4000000 in
theorem WX8_tail {S2 : qSt} (C : qC g cX8_init RX8 1 p s m meth c) (hr : meth.sig.returnType = none) (n : Nat) (S : qSt) (h : ctorTail n S = some S2) : qR g 126 (qZ g 126) 1 p l e rmX8_init s m args below meth c 14 1891 (MQ below (qQv g 126 (qZ g 126) (qmem g S2)) args s 14 1891 (qA g)) (qmem g S) 118 [(0, .ref (qa g 111))] [] := by
  unfold ctorTail at h
  refine q_aload_n C 0 dX8_init_118 rfl rfl ?_
  refine s_getr (a := 114) C lf8_16 (by decide : 111 < 126) kd_111 rfl dX8_init_119 ?_
  refine q_iconst (v := 2) C dX8_init_122 (by decide) ?_
  obtain ⟨S2, hc1, h⟩ := ob1_e h
  refine q_callSv C (jX8_clear n 2 S hc1) lm8_53 rfl (rest := []) rfl (Nat.le_of_ble_eq_true rfl) dX8_init_123 ⟨rfl, rfl, Nat.le_of_ble_eq_true rfl, Nat.le_of_ble_eq_true rfl, Nat.le_of_ble_eq_true rfl, Nat.le_of_ble_eq_true rfl⟩ ?_
  refine q_aload_n C 0 dX8_init_126 rfl rfl ?_
  refine s_getr (a := 114) C lf8_16 (by decide : 111 < 126) kd_111 rfl dX8_init_127 ?_
  refine q_iconst (v := 3) C dX8_init_130 (by decide) ?_
  refine q_iconst (v := 1) C dX8_init_131 (by decide) ?_
  obtain ⟨S3, hS3, h⟩ := obs_e h
  refine s_iast C (by decide : 114 < 126) kd_114 (by decide) dX8_init_132 ?_
  rw [← hS3]
  refine q_aload_n C 0 dX8_init_133 rfl rfl ?_
  refine q_iconst (v := 0) C dX8_init_134 (by decide) ?_
  refine q_bipush (v := 111) C dX8_init_135 (by decide) ?_
  refine q_bipush (v := 112) C dX8_init_137 (by decide) ?_
  refine q_bipush (v := 101) C dX8_init_139 (by decide) ?_
  refine q_bipush (v := 110) C dX8_init_141 (by decide) ?_
  refine q_iconst (v := 0) C dX8_init_143 (by decide) ?_
  obtain ⟨S5, hc4, h⟩ := ob1_e h
  refine q_callVv C (by decide : 111 < 126) (qmem_o kd_111 (Nat.le_of_ble_eq_true rfl)) rfl rfl (jX8_tell 0 111 112 101 110 0 S3 hc4) lm8_57 rfl (rest := []) rfl (Nat.le_of_ble_eq_true rfl) dX8_init_144 ⟨rfl, rfl, Nat.le_of_ble_eq_true rfl, Nat.le_of_ble_eq_true rfl, Nat.le_of_ble_eq_true rfl, Nat.le_of_ble_eq_true rfl⟩ ?_
  refine q_aload_n C 0 dX8_init_147 rfl rfl ?_
  refine q_iconst (v := 5) C dX8_init_148 (by decide) ?_
  refine q_bipush (v := 99) C dX8_init_149 (by decide) ?_
  refine q_bipush (v := 108) C dX8_init_151 (by decide) ?_
  refine q_bipush (v := 111) C dX8_init_153 (by decide) ?_
  refine q_bipush (v := 115) C dX8_init_155 (by decide) ?_
  refine q_bipush (v := 101) C dX8_init_157 (by decide) ?_
  obtain ⟨S7, hc6, h⟩ := ob1_e h
  refine q_callVv C (by decide : 111 < 126) (qmem_o kd_111 (Nat.le_of_ble_eq_true rfl)) rfl rfl (jX8_tell 5 99 108 111 115 101 S5 hc6) lm8_57 rfl (rest := []) rfl (Nat.le_of_ble_eq_true rfl) dX8_init_159 ⟨rfl, rfl, Nat.le_of_ble_eq_true rfl, Nat.le_of_ble_eq_true rfl, Nat.le_of_ble_eq_true rfl, Nat.le_of_ble_eq_true rfl⟩ ?_
  refine q_aload_n C 0 dX8_init_162 rfl rfl ?_
  refine q_bipush (v := 10) C dX8_init_163 (by decide) ?_
  refine q_bipush (v := 108) C dX8_init_165 (by decide) ?_
  refine q_bipush (v := 111) C dX8_init_167 (by decide) ?_
  refine q_bipush (v := 110) C dX8_init_169 (by decide) ?_
  refine q_bipush (v := 103) C dX8_init_171 (by decide) ?_
  refine q_iconst (v := 0) C dX8_init_173 (by decide) ?_
  obtain ⟨S9, hc8, h⟩ := ob1_e h
  refine q_callVv C (by decide : 111 < 126) (qmem_o kd_111 (Nat.le_of_ble_eq_true rfl)) rfl rfl (jX8_tell 10 108 111 110 103 0 S7 hc8) lm8_57 rfl (rest := []) rfl (Nat.le_of_ble_eq_true rfl) dX8_init_174 ⟨rfl, rfl, Nat.le_of_ble_eq_true rfl, Nat.le_of_ble_eq_true rfl, Nat.le_of_ble_eq_true rfl, Nat.le_of_ble_eq_true rfl⟩ ?_
  refine q_aload_n C 0 dX8_init_177 rfl rfl ?_
  refine q_bipush (v := 15) C dX8_init_178 (by decide) ?_
  refine q_bipush (v := 101) C dX8_init_180 (by decide) ?_
  refine q_bipush (v := 110) C dX8_init_182 (by decide) ?_
  refine q_bipush (v := 100) C dX8_init_184 (by decide) ?_
  refine q_bipush (v := 115) C dX8_init_186 (by decide) ?_
  refine q_iconst (v := 0) C dX8_init_188 (by decide) ?_
  obtain ⟨S11, hc10, h⟩ := ob1_e h
  refine q_callVv C (by decide : 111 < 126) (qmem_o kd_111 (Nat.le_of_ble_eq_true rfl)) rfl rfl (jX8_tell 15 101 110 100 115 0 S9 hc10) lm8_57 rfl (rest := []) rfl (Nat.le_of_ble_eq_true rfl) dX8_init_189 ⟨rfl, rfl, Nat.le_of_ble_eq_true rfl, Nat.le_of_ble_eq_true rfl, Nat.le_of_ble_eq_true rfl, Nat.le_of_ble_eq_true rfl⟩ ?_
  refine q_aload_n C 0 dX8_init_192 rfl rfl ?_
  refine q_bipush (v := 20) C dX8_init_193 (by decide) ?_
  refine q_bipush (v := 116) C dX8_init_195 (by decide) ?_
  refine q_bipush (v := 117) C dX8_init_197 (by decide) ?_
  refine q_bipush (v := 114) C dX8_init_199 (by decide) ?_
  refine q_bipush (v := 110) C dX8_init_201 (by decide) ?_
  refine q_iconst (v := 0) C dX8_init_203 (by decide) ?_
  obtain ⟨S13, hc12, h⟩ := ob1_e h
  refine q_callVv C (by decide : 111 < 126) (qmem_o kd_111 (Nat.le_of_ble_eq_true rfl)) rfl rfl (jX8_tell 20 116 117 114 110 0 S11 hc12) lm8_57 rfl (rest := []) rfl (Nat.le_of_ble_eq_true rfl) dX8_init_204 ⟨rfl, rfl, Nat.le_of_ble_eq_true rfl, Nat.le_of_ble_eq_true rfl, Nat.le_of_ble_eq_true rfl, Nat.le_of_ble_eq_true rfl⟩ ?_
  obtain rfl := Option.some.inj h
  exact q_vret C hr (Nat.le_refl _) (Nat.le_refl _) dX8_init_207
set_option maxRecDepth 100000 in
set_option maxHeartbeats 4000000 in
theorem kX8_init {l : Launch} {g : qG} (n : Nat) {S2 : qSt} (h : ctorTail n S0c = some S2) (M : Nat → va_E) (low0 : ∀ q, q < 111 → M q = qmem g S0c q) (e0 : M 111 = .inr (8, [.int 0, .null, .int 0, .int 0, .null, .null, .null, .null, .int 0, .null, .null, .null, .null, .null, .null, .int 0, .int 0, .int 0, .int 0, .null, .null, .null])) : Met l yX8_init [.code yX8_init cX8_init 1 none] rmX8_init (qPc g 112 (qZ g 112) M [.ref (qa g 111)]) (qQv g 126 (qZ g 126) (qmem g S2)) 14 1891 (qA g) := by
  refine q_met (by decide) (Nat.le_of_ble_eq_true rfl) (fun p e s m args below meth c C hr hnm => ?_)
  have hin : meth.name = "<init>" := hnm
  have C : qC g cX8_init RX8 1 p s m meth c := C
  obtain ⟨M0, hM0⟩ : ∃ z, z = M := ⟨_, rfl⟩
  rw [← hM0] at e0 low0
  refine q_name hM0 ?_
  show qR g 112 (qZ g 112) 1 p l e rmX8_init s m args below meth c 0 0 (MQ below (qQv g 126 (qZ g 126) (qmem g S2)) args s 14 1891 (qA g)) M0 0 [(0, .ref (qa g 111))] []
  refine q_aload_n C 0 dX8_init_0 rfl rfl ?_
  refine q_oinit C (qwi 925 (by decide +kernel) (by decide +kernel)) oiI oiC (Nat.le_of_ble_eq_true rfl) (Nat.le_of_ble_eq_true rfl) dX8_init_1 ?_
  refine q_aload_n C 0 dX8_init_4 rfl rfl ?_
  refine q_sipush (v := 140) C dX8_init_5 (by decide) ?_
  refine q_newa_i (n9 := 140) C ac_int (by decide) (by decide) (by decide) ⟨Nat.le_of_ble_eq_true rfl, Nat.le_of_ble_eq_true rfl⟩ dX8_init_8 ?_
  show qR g 113 (qZ g 113) 1 p l e rmX8_init s m args below meth c 1 140 (MQ below (qQv g 126 (qZ g 126) (qmem g S2)) args s 14 1891 (qA g)) (va_up M0 112 (.inl (g.2.2.1 0, 140, .inl fun _ => 0))) 10 [(0, .ref (qa g 111))] (.ref (qa g 112) :: [.ref (qa g 111)])
  obtain ⟨N1, hN1⟩ : ∃ z, z = va_up M0 112 (.inl (g.2.2.1 0, 140, .inl fun _ => 0)) := ⟨_, rfl⟩
  refine q_name hN1 ?_
  have e111_1 : N1 111 = _ := (by rw [hN1]; exact va_up_ne _ _ (by omega) : N1 111 = M0 111).trans e0
  have e112_1 : N1 112 = .inl (g.2.2.1 0, 140, .inl fun _ => 0) := by rw [hN1]; exact va_up_self _ _ _
  have low_1 : ∀ q, q < 111 → N1 q = qmem g S0c q := fun q hq => (by rw [hN1]; exact va_up_ne _ _ (by omega) : N1 q = M0 q).trans (low0 q hq)
  refine q_putF (o := 111) (ci := 8) (k := 1) (fs := [.int 0, .null, .int 0, .int 0, .null, .null, .null, .null, .int 0, .null, .null, .null, .null, .null, .null, .int 0, .int 0, .int 0, .int 0, .null, .null, .null]) (v := .ref (qa g 112)) C (by omega) e111_1 (rfl : vwCl[8]? = some (RX8, TX8, 22)) (Nat.le_of_ble_eq_true rfl) (qwi 934 (by decide +kernel) (by decide +kernel)) (by decide +kernel) hin rfl (tyX8_ok 1 (Nat.le_of_ble_eq_true rfl)) rfl rfl (Nat.le_of_ble_eq_true rfl) dX8_init_10 ?_
  show qR g 113 (qZ g 113) 1 p l e rmX8_init s m args below meth c 1 140 (MQ below (qQv g 126 (qZ g 126) (qmem g S2)) args s 14 1891 (qA g)) (va_up N1 111 (.inr (8, [.int 0,.ref (qa g 112),.int 0,.int 0,.null,.null,.null,.null,.int 0,.null,.null,.null,.null,.null,.null,.int 0,.int 0,.int 0,.int 0,.null,.null,.null]))) 13 [(0, .ref (qa g 111))] []
  obtain ⟨N2, hN2⟩ : ∃ z, z = va_up N1 111 (.inr (8, [.int 0, .ref (qa g 112), .int 0, .int 0, .null, .null, .null, .null, .int 0, .null, .null, .null, .null, .null, .null, .int 0, .int 0, .int 0, .int 0, .null, .null, .null])) := ⟨_, rfl⟩
  refine q_name hN2 ?_
  have e111_2 : N2 111 = .inr (8, [.int 0, .ref (qa g 112), .int 0, .int 0, .null, .null, .null, .null, .int 0, .null, .null, .null, .null, .null, .null, .int 0, .int 0, .int 0, .int 0, .null, .null, .null]) := by rw [hN2]; exact va_up_self _ _ _
  have e112_2 : N2 112 = _ := (by rw [hN2]; exact va_up_ne _ _ (by omega) : N2 112 = N1 112).trans e112_1
  have low_2 : ∀ q, q < 111 → N2 q = qmem g S0c q := fun q hq => (by rw [hN2]; exact va_up_ne _ _ (by omega) : N2 q = N1 q).trans (low_1 q hq)
  refine q_aload_n C 0 dX8_init_13 rfl rfl ?_
  refine q_bipush (v := 84) C dX8_init_14 (by decide) ?_
  refine q_newa_i (n9 := 84) C ac_int (by decide) (by decide) (by decide) ⟨Nat.le_of_ble_eq_true rfl, Nat.le_of_ble_eq_true rfl⟩ dX8_init_16 ?_
  show qR g 114 (qZ g 114) 1 p l e rmX8_init s m args below meth c 2 224 (MQ below (qQv g 126 (qZ g 126) (qmem g S2)) args s 14 1891 (qA g)) (va_up N2 113 (.inl (g.2.2.1 0, 84, .inl fun _ => 0))) 18 [(0, .ref (qa g 111))] (.ref (qa g 113) :: [.ref (qa g 111)])
  obtain ⟨N3, hN3⟩ : ∃ z, z = va_up N2 113 (.inl (g.2.2.1 0, 84, .inl fun _ => 0)) := ⟨_, rfl⟩
  refine q_name hN3 ?_
  have e111_3 : N3 111 = _ := (by rw [hN3]; exact va_up_ne _ _ (by omega) : N3 111 = N2 111).trans e111_2
  have e112_3 : N3 112 = _ := (by rw [hN3]; exact va_up_ne _ _ (by omega) : N3 112 = N2 112).trans e112_2
  have e113_3 : N3 113 = .inl (g.2.2.1 0, 84, .inl fun _ => 0) := by rw [hN3]; exact va_up_self _ _ _
  have low_3 : ∀ q, q < 111 → N3 q = qmem g S0c q := fun q hq => (by rw [hN3]; exact va_up_ne _ _ (by omega) : N3 q = N2 q).trans (low_2 q hq)
  refine q_putF (o := 111) (ci := 8) (k := 4) (fs := [.int 0, .ref (qa g 112), .int 0, .int 0, .null, .null, .null, .null, .int 0, .null, .null, .null, .null, .null, .null, .int 0, .int 0, .int 0, .int 0, .null, .null, .null]) (v := .ref (qa g 113)) C (by omega) e111_3 (rfl : vwCl[8]? = some (RX8, TX8, 22)) (Nat.le_of_ble_eq_true rfl) (qwi 937 (by decide +kernel) (by decide +kernel)) (by decide +kernel) hin rfl (tyX8_ok 4 (Nat.le_of_ble_eq_true rfl)) rfl rfl (Nat.le_of_ble_eq_true rfl) dX8_init_18 ?_
  show qR g 114 (qZ g 114) 1 p l e rmX8_init s m args below meth c 2 224 (MQ below (qQv g 126 (qZ g 126) (qmem g S2)) args s 14 1891 (qA g)) (va_up N3 111 (.inr (8, [.int 0,.ref (qa g 112),.int 0,.int 0,.ref (qa g 113),.null,.null,.null,.int 0,.null,.null,.null,.null,.null,.null,.int 0,.int 0,.int 0,.int 0,.null,.null,.null]))) 21 [(0, .ref (qa g 111))] []
  obtain ⟨N4, hN4⟩ : ∃ z, z = va_up N3 111 (.inr (8, [.int 0, .ref (qa g 112), .int 0, .int 0, .ref (qa g 113), .null, .null, .null, .int 0, .null, .null, .null, .null, .null, .null, .int 0, .int 0, .int 0, .int 0, .null, .null, .null])) := ⟨_, rfl⟩
  refine q_name hN4 ?_
  have e111_4 : N4 111 = .inr (8, [.int 0, .ref (qa g 112), .int 0, .int 0, .ref (qa g 113), .null, .null, .null, .int 0, .null, .null, .null, .null, .null, .null, .int 0, .int 0, .int 0, .int 0, .null, .null, .null]) := by rw [hN4]; exact va_up_self _ _ _
  have e112_4 : N4 112 = _ := (by rw [hN4]; exact va_up_ne _ _ (by omega) : N4 112 = N3 112).trans e112_3
  have e113_4 : N4 113 = _ := (by rw [hN4]; exact va_up_ne _ _ (by omega) : N4 113 = N3 113).trans e113_3
  have low_4 : ∀ q, q < 111 → N4 q = qmem g S0c q := fun q hq => (by rw [hN4]; exact va_up_ne _ _ (by omega) : N4 q = N3 q).trans (low_3 q hq)
  refine q_aload_n C 0 dX8_init_21 rfl rfl ?_
  refine q_bipush (v := 84) C dX8_init_22 (by decide) ?_
  refine q_newa_i (n9 := 84) C ac_int (by decide) (by decide) (by decide) ⟨Nat.le_of_ble_eq_true rfl, Nat.le_of_ble_eq_true rfl⟩ dX8_init_24 ?_
  show qR g 115 (qZ g 115) 1 p l e rmX8_init s m args below meth c 3 308 (MQ below (qQv g 126 (qZ g 126) (qmem g S2)) args s 14 1891 (qA g)) (va_up N4 114 (.inl (g.2.2.1 0, 84, .inl fun _ => 0))) 26 [(0, .ref (qa g 111))] (.ref (qa g 114) :: [.ref (qa g 111)])
  obtain ⟨N5, hN5⟩ : ∃ z, z = va_up N4 114 (.inl (g.2.2.1 0, 84, .inl fun _ => 0)) := ⟨_, rfl⟩
  refine q_name hN5 ?_
  have e111_5 : N5 111 = _ := (by rw [hN5]; exact va_up_ne _ _ (by omega) : N5 111 = N4 111).trans e111_4
  have e112_5 : N5 112 = _ := (by rw [hN5]; exact va_up_ne _ _ (by omega) : N5 112 = N4 112).trans e112_4
  have e113_5 : N5 113 = _ := (by rw [hN5]; exact va_up_ne _ _ (by omega) : N5 113 = N4 113).trans e113_4
  have e114_5 : N5 114 = .inl (g.2.2.1 0, 84, .inl fun _ => 0) := by rw [hN5]; exact va_up_self _ _ _
  have low_5 : ∀ q, q < 111 → N5 q = qmem g S0c q := fun q hq => (by rw [hN5]; exact va_up_ne _ _ (by omega) : N5 q = N4 q).trans (low_4 q hq)
  refine q_putF (o := 111) (ci := 8) (k := 5) (fs := [.int 0, .ref (qa g 112), .int 0, .int 0, .ref (qa g 113), .null, .null, .null, .int 0, .null, .null, .null, .null, .null, .null, .int 0, .int 0, .int 0, .int 0, .null, .null, .null]) (v := .ref (qa g 114)) C (by omega) e111_5 (rfl : vwCl[8]? = some (RX8, TX8, 22)) (Nat.le_of_ble_eq_true rfl) (qwi 938 (by decide +kernel) (by decide +kernel)) (by decide +kernel) hin rfl (tyX8_ok 5 (Nat.le_of_ble_eq_true rfl)) rfl rfl (Nat.le_of_ble_eq_true rfl) dX8_init_26 ?_
  show qR g 115 (qZ g 115) 1 p l e rmX8_init s m args below meth c 3 308 (MQ below (qQv g 126 (qZ g 126) (qmem g S2)) args s 14 1891 (qA g)) (va_up N5 111 (.inr (8, [.int 0,.ref (qa g 112),.int 0,.int 0,.ref (qa g 113),.ref (qa g 114),.null,.null,.int 0,.null,.null,.null,.null,.null,.null,.int 0,.int 0,.int 0,.int 0,.null,.null,.null]))) 29 [(0, .ref (qa g 111))] []
  obtain ⟨N6, hN6⟩ : ∃ z, z = va_up N5 111 (.inr (8, [.int 0, .ref (qa g 112), .int 0, .int 0, .ref (qa g 113), .ref (qa g 114), .null, .null, .int 0, .null, .null, .null, .null, .null, .null, .int 0, .int 0, .int 0, .int 0, .null, .null, .null])) := ⟨_, rfl⟩
  refine q_name hN6 ?_
  have e111_6 : N6 111 = .inr (8, [.int 0, .ref (qa g 112), .int 0, .int 0, .ref (qa g 113), .ref (qa g 114), .null, .null, .int 0, .null, .null, .null, .null, .null, .null, .int 0, .int 0, .int 0, .int 0, .null, .null, .null]) := by rw [hN6]; exact va_up_self _ _ _
  have e112_6 : N6 112 = _ := (by rw [hN6]; exact va_up_ne _ _ (by omega) : N6 112 = N5 112).trans e112_5
  have e113_6 : N6 113 = _ := (by rw [hN6]; exact va_up_ne _ _ (by omega) : N6 113 = N5 113).trans e113_5
  have e114_6 : N6 114 = _ := (by rw [hN6]; exact va_up_ne _ _ (by omega) : N6 114 = N5 114).trans e114_5
  have low_6 : ∀ q, q < 111 → N6 q = qmem g S0c q := fun q hq => (by rw [hN6]; exact va_up_ne _ _ (by omega) : N6 q = N5 q).trans (low_5 q hq)
  refine q_aload_n C 0 dX8_init_29 rfl rfl ?_
  refine q_bipush (v := 84) C dX8_init_30 (by decide) ?_
  refine q_newa_i (n9 := 84) C ac_int (by decide) (by decide) (by decide) ⟨Nat.le_of_ble_eq_true rfl, Nat.le_of_ble_eq_true rfl⟩ dX8_init_32 ?_
  show qR g 116 (qZ g 116) 1 p l e rmX8_init s m args below meth c 4 392 (MQ below (qQv g 126 (qZ g 126) (qmem g S2)) args s 14 1891 (qA g)) (va_up N6 115 (.inl (g.2.2.1 0, 84, .inl fun _ => 0))) 34 [(0, .ref (qa g 111))] (.ref (qa g 115) :: [.ref (qa g 111)])
  obtain ⟨N7, hN7⟩ : ∃ z, z = va_up N6 115 (.inl (g.2.2.1 0, 84, .inl fun _ => 0)) := ⟨_, rfl⟩
  refine q_name hN7 ?_
  have e111_7 : N7 111 = _ := (by rw [hN7]; exact va_up_ne _ _ (by omega) : N7 111 = N6 111).trans e111_6
  have e112_7 : N7 112 = _ := (by rw [hN7]; exact va_up_ne _ _ (by omega) : N7 112 = N6 112).trans e112_6
  have e113_7 : N7 113 = _ := (by rw [hN7]; exact va_up_ne _ _ (by omega) : N7 113 = N6 113).trans e113_6
  have e114_7 : N7 114 = _ := (by rw [hN7]; exact va_up_ne _ _ (by omega) : N7 114 = N6 114).trans e114_6
  have e115_7 : N7 115 = .inl (g.2.2.1 0, 84, .inl fun _ => 0) := by rw [hN7]; exact va_up_self _ _ _
  have low_7 : ∀ q, q < 111 → N7 q = qmem g S0c q := fun q hq => (by rw [hN7]; exact va_up_ne _ _ (by omega) : N7 q = N6 q).trans (low_6 q hq)
  refine q_putF (o := 111) (ci := 8) (k := 6) (fs := [.int 0, .ref (qa g 112), .int 0, .int 0, .ref (qa g 113), .ref (qa g 114), .null, .null, .int 0, .null, .null, .null, .null, .null, .null, .int 0, .int 0, .int 0, .int 0, .null, .null, .null]) (v := .ref (qa g 115)) C (by omega) e111_7 (rfl : vwCl[8]? = some (RX8, TX8, 22)) (Nat.le_of_ble_eq_true rfl) (qwi 939 (by decide +kernel) (by decide +kernel)) (by decide +kernel) hin rfl (tyX8_ok 6 (Nat.le_of_ble_eq_true rfl)) rfl rfl (Nat.le_of_ble_eq_true rfl) dX8_init_34 ?_
  show qR g 116 (qZ g 116) 1 p l e rmX8_init s m args below meth c 4 392 (MQ below (qQv g 126 (qZ g 126) (qmem g S2)) args s 14 1891 (qA g)) (va_up N7 111 (.inr (8, [.int 0,.ref (qa g 112),.int 0,.int 0,.ref (qa g 113),.ref (qa g 114),.ref (qa g 115),.null,.int 0,.null,.null,.null,.null,.null,.null,.int 0,.int 0,.int 0,.int 0,.null,.null,.null]))) 37 [(0, .ref (qa g 111))] []
  obtain ⟨N8, hN8⟩ : ∃ z, z = va_up N7 111 (.inr (8, [.int 0, .ref (qa g 112), .int 0, .int 0, .ref (qa g 113), .ref (qa g 114), .ref (qa g 115), .null, .int 0, .null, .null, .null, .null, .null, .null, .int 0, .int 0, .int 0, .int 0, .null, .null, .null])) := ⟨_, rfl⟩
  refine q_name hN8 ?_
  have e111_8 : N8 111 = .inr (8, [.int 0, .ref (qa g 112), .int 0, .int 0, .ref (qa g 113), .ref (qa g 114), .ref (qa g 115), .null, .int 0, .null, .null, .null, .null, .null, .null, .int 0, .int 0, .int 0, .int 0, .null, .null, .null]) := by rw [hN8]; exact va_up_self _ _ _
  have e112_8 : N8 112 = _ := (by rw [hN8]; exact va_up_ne _ _ (by omega) : N8 112 = N7 112).trans e112_7
  have e113_8 : N8 113 = _ := (by rw [hN8]; exact va_up_ne _ _ (by omega) : N8 113 = N7 113).trans e113_7
  have e114_8 : N8 114 = _ := (by rw [hN8]; exact va_up_ne _ _ (by omega) : N8 114 = N7 114).trans e114_7
  have e115_8 : N8 115 = _ := (by rw [hN8]; exact va_up_ne _ _ (by omega) : N8 115 = N7 115).trans e115_7
  have low_8 : ∀ q, q < 111 → N8 q = qmem g S0c q := fun q hq => (by rw [hN8]; exact va_up_ne _ _ (by omega) : N8 q = N7 q).trans (low_7 q hq)
  refine q_aload_n C 0 dX8_init_37 rfl rfl ?_
  refine q_sipush (v := 1176) C dX8_init_38 (by decide) ?_
  refine q_newa_i (n9 := 1176) C ac_int (by decide) (by decide) (by decide) ⟨Nat.le_of_ble_eq_true rfl, Nat.le_of_ble_eq_true rfl⟩ dX8_init_41 ?_
  show qR g 117 (qZ g 117) 1 p l e rmX8_init s m args below meth c 5 1568 (MQ below (qQv g 126 (qZ g 126) (qmem g S2)) args s 14 1891 (qA g)) (va_up N8 116 (.inl (g.2.2.1 0, 1176, .inl fun _ => 0))) 43 [(0, .ref (qa g 111))] (.ref (qa g 116) :: [.ref (qa g 111)])
  obtain ⟨N9, hN9⟩ : ∃ z, z = va_up N8 116 (.inl (g.2.2.1 0, 1176, .inl fun _ => 0)) := ⟨_, rfl⟩
  refine q_name hN9 ?_
  have e111_9 : N9 111 = _ := (by rw [hN9]; exact va_up_ne _ _ (by omega) : N9 111 = N8 111).trans e111_8
  have e112_9 : N9 112 = _ := (by rw [hN9]; exact va_up_ne _ _ (by omega) : N9 112 = N8 112).trans e112_8
  have e113_9 : N9 113 = _ := (by rw [hN9]; exact va_up_ne _ _ (by omega) : N9 113 = N8 113).trans e113_8
  have e114_9 : N9 114 = _ := (by rw [hN9]; exact va_up_ne _ _ (by omega) : N9 114 = N8 114).trans e114_8
  have e115_9 : N9 115 = _ := (by rw [hN9]; exact va_up_ne _ _ (by omega) : N9 115 = N8 115).trans e115_8
  have e116_9 : N9 116 = .inl (g.2.2.1 0, 1176, .inl fun _ => 0) := by rw [hN9]; exact va_up_self _ _ _
  have low_9 : ∀ q, q < 111 → N9 q = qmem g S0c q := fun q hq => (by rw [hN9]; exact va_up_ne _ _ (by omega) : N9 q = N8 q).trans (low_8 q hq)
  refine q_putF (o := 111) (ci := 8) (k := 7) (fs := [.int 0, .ref (qa g 112), .int 0, .int 0, .ref (qa g 113), .ref (qa g 114), .ref (qa g 115), .null, .int 0, .null, .null, .null, .null, .null, .null, .int 0, .int 0, .int 0, .int 0, .null, .null, .null]) (v := .ref (qa g 116)) C (by omega) e111_9 (rfl : vwCl[8]? = some (RX8, TX8, 22)) (Nat.le_of_ble_eq_true rfl) (qwi 940 (by decide +kernel) (by decide +kernel)) (by decide +kernel) hin rfl (tyX8_ok 7 (Nat.le_of_ble_eq_true rfl)) rfl rfl (Nat.le_of_ble_eq_true rfl) dX8_init_43 ?_
  show qR g 117 (qZ g 117) 1 p l e rmX8_init s m args below meth c 5 1568 (MQ below (qQv g 126 (qZ g 126) (qmem g S2)) args s 14 1891 (qA g)) (va_up N9 111 (.inr (8, [.int 0,.ref (qa g 112),.int 0,.int 0,.ref (qa g 113),.ref (qa g 114),.ref (qa g 115),.ref (qa g 116),.int 0,.null,.null,.null,.null,.null,.null,.int 0,.int 0,.int 0,.int 0,.null,.null,.null]))) 46 [(0, .ref (qa g 111))] []
  obtain ⟨N10, hN10⟩ : ∃ z, z = va_up N9 111 (.inr (8, [.int 0, .ref (qa g 112), .int 0, .int 0, .ref (qa g 113), .ref (qa g 114), .ref (qa g 115), .ref (qa g 116), .int 0, .null, .null, .null, .null, .null, .null, .int 0, .int 0, .int 0, .int 0, .null, .null, .null])) := ⟨_, rfl⟩
  refine q_name hN10 ?_
  have e111_10 : N10 111 = .inr (8, [.int 0, .ref (qa g 112), .int 0, .int 0, .ref (qa g 113), .ref (qa g 114), .ref (qa g 115), .ref (qa g 116), .int 0, .null, .null, .null, .null, .null, .null, .int 0, .int 0, .int 0, .int 0, .null, .null, .null]) := by rw [hN10]; exact va_up_self _ _ _
  have e112_10 : N10 112 = _ := (by rw [hN10]; exact va_up_ne _ _ (by omega) : N10 112 = N9 112).trans e112_9
  have e113_10 : N10 113 = _ := (by rw [hN10]; exact va_up_ne _ _ (by omega) : N10 113 = N9 113).trans e113_9
  have e114_10 : N10 114 = _ := (by rw [hN10]; exact va_up_ne _ _ (by omega) : N10 114 = N9 114).trans e114_9
  have e115_10 : N10 115 = _ := (by rw [hN10]; exact va_up_ne _ _ (by omega) : N10 115 = N9 115).trans e115_9
  have e116_10 : N10 116 = _ := (by rw [hN10]; exact va_up_ne _ _ (by omega) : N10 116 = N9 116).trans e116_9
  have low_10 : ∀ q, q < 111 → N10 q = qmem g S0c q := fun q hq => (by rw [hN10]; exact va_up_ne _ _ (by omega) : N10 q = N9 q).trans (low_9 q hq)
  refine q_aload_n C 0 dX8_init_46 rfl rfl ?_
  refine q_sipush (v := 168) C dX8_init_47 (by decide) ?_
  refine q_newa_i (n9 := 168) C ac_int (by decide) (by decide) (by decide) ⟨Nat.le_of_ble_eq_true rfl, Nat.le_of_ble_eq_true rfl⟩ dX8_init_50 ?_
  show qR g 118 (qZ g 118) 1 p l e rmX8_init s m args below meth c 6 1736 (MQ below (qQv g 126 (qZ g 126) (qmem g S2)) args s 14 1891 (qA g)) (va_up N10 117 (.inl (g.2.2.1 0, 168, .inl fun _ => 0))) 52 [(0, .ref (qa g 111))] (.ref (qa g 117) :: [.ref (qa g 111)])
  obtain ⟨N11, hN11⟩ : ∃ z, z = va_up N10 117 (.inl (g.2.2.1 0, 168, .inl fun _ => 0)) := ⟨_, rfl⟩
  refine q_name hN11 ?_
  have e111_11 : N11 111 = _ := (by rw [hN11]; exact va_up_ne _ _ (by omega) : N11 111 = N10 111).trans e111_10
  have e112_11 : N11 112 = _ := (by rw [hN11]; exact va_up_ne _ _ (by omega) : N11 112 = N10 112).trans e112_10
  have e113_11 : N11 113 = _ := (by rw [hN11]; exact va_up_ne _ _ (by omega) : N11 113 = N10 113).trans e113_10
  have e114_11 : N11 114 = _ := (by rw [hN11]; exact va_up_ne _ _ (by omega) : N11 114 = N10 114).trans e114_10
  have e115_11 : N11 115 = _ := (by rw [hN11]; exact va_up_ne _ _ (by omega) : N11 115 = N10 115).trans e115_10
  have e116_11 : N11 116 = _ := (by rw [hN11]; exact va_up_ne _ _ (by omega) : N11 116 = N10 116).trans e116_10
  have e117_11 : N11 117 = .inl (g.2.2.1 0, 168, .inl fun _ => 0) := by rw [hN11]; exact va_up_self _ _ _
  have low_11 : ∀ q, q < 111 → N11 q = qmem g S0c q := fun q hq => (by rw [hN11]; exact va_up_ne _ _ (by omega) : N11 q = N10 q).trans (low_10 q hq)
  refine q_putF (o := 111) (ci := 8) (k := 9) (fs := [.int 0, .ref (qa g 112), .int 0, .int 0, .ref (qa g 113), .ref (qa g 114), .ref (qa g 115), .ref (qa g 116), .int 0, .null, .null, .null, .null, .null, .null, .int 0, .int 0, .int 0, .int 0, .null, .null, .null]) (v := .ref (qa g 117)) C (by omega) e111_11 (rfl : vwCl[8]? = some (RX8, TX8, 22)) (Nat.le_of_ble_eq_true rfl) (qwi 942 (by decide +kernel) (by decide +kernel)) (by decide +kernel) hin rfl (tyX8_ok 9 (Nat.le_of_ble_eq_true rfl)) rfl rfl (Nat.le_of_ble_eq_true rfl) dX8_init_52 ?_
  show qR g 118 (qZ g 118) 1 p l e rmX8_init s m args below meth c 6 1736 (MQ below (qQv g 126 (qZ g 126) (qmem g S2)) args s 14 1891 (qA g)) (va_up N11 111 (.inr (8, [.int 0,.ref (qa g 112),.int 0,.int 0,.ref (qa g 113),.ref (qa g 114),.ref (qa g 115),.ref (qa g 116),.int 0,.ref (qa g 117),.null,.null,.null,.null,.null,.int 0,.int 0,.int 0,.int 0,.null,.null,.null]))) 55 [(0, .ref (qa g 111))] []
  obtain ⟨N12, hN12⟩ : ∃ z, z = va_up N11 111 (.inr (8, [.int 0, .ref (qa g 112), .int 0, .int 0, .ref (qa g 113), .ref (qa g 114), .ref (qa g 115), .ref (qa g 116), .int 0, .ref (qa g 117), .null, .null, .null, .null, .null, .int 0, .int 0, .int 0, .int 0, .null, .null, .null])) := ⟨_, rfl⟩
  refine q_name hN12 ?_
  have e111_12 : N12 111 = .inr (8, [.int 0, .ref (qa g 112), .int 0, .int 0, .ref (qa g 113), .ref (qa g 114), .ref (qa g 115), .ref (qa g 116), .int 0, .ref (qa g 117), .null, .null, .null, .null, .null, .int 0, .int 0, .int 0, .int 0, .null, .null, .null]) := by rw [hN12]; exact va_up_self _ _ _
  have e112_12 : N12 112 = _ := (by rw [hN12]; exact va_up_ne _ _ (by omega) : N12 112 = N11 112).trans e112_11
  have e113_12 : N12 113 = _ := (by rw [hN12]; exact va_up_ne _ _ (by omega) : N12 113 = N11 113).trans e113_11
  have e114_12 : N12 114 = _ := (by rw [hN12]; exact va_up_ne _ _ (by omega) : N12 114 = N11 114).trans e114_11
  have e115_12 : N12 115 = _ := (by rw [hN12]; exact va_up_ne _ _ (by omega) : N12 115 = N11 115).trans e115_11
  have e116_12 : N12 116 = _ := (by rw [hN12]; exact va_up_ne _ _ (by omega) : N12 116 = N11 116).trans e116_11
  have e117_12 : N12 117 = _ := (by rw [hN12]; exact va_up_ne _ _ (by omega) : N12 117 = N11 117).trans e117_11
  have low_12 : ∀ q, q < 111 → N12 q = qmem g S0c q := fun q hq => (by rw [hN12]; exact va_up_ne _ _ (by omega) : N12 q = N11 q).trans (low_11 q hq)
  refine q_aload_n C 0 dX8_init_55 rfl rfl ?_
  refine q_iconst (v := 2) C dX8_init_56 (by decide) ?_
  refine q_newa_z (n9 := 2) C ac_boolean (by decide) (by decide) (by decide) ⟨Nat.le_of_ble_eq_true rfl, Nat.le_of_ble_eq_true rfl⟩ dX8_init_57 ?_
  show qR g 119 (qZ g 119) 1 p l e rmX8_init s m args below meth c 7 1738 (MQ below (qQv g 126 (qZ g 126) (qmem g S2)) args s 14 1891 (qA g)) (va_up N12 118 (.inl (g.2.2.1 1, 2, .inl fun _ => 0))) 59 [(0, .ref (qa g 111))] (.ref (qa g 118) :: [.ref (qa g 111)])
  obtain ⟨N13, hN13⟩ : ∃ z, z = va_up N12 118 (.inl (g.2.2.1 1, 2, .inl fun _ => 0)) := ⟨_, rfl⟩
  refine q_name hN13 ?_
  have e111_13 : N13 111 = _ := (by rw [hN13]; exact va_up_ne _ _ (by omega) : N13 111 = N12 111).trans e111_12
  have e112_13 : N13 112 = _ := (by rw [hN13]; exact va_up_ne _ _ (by omega) : N13 112 = N12 112).trans e112_12
  have e113_13 : N13 113 = _ := (by rw [hN13]; exact va_up_ne _ _ (by omega) : N13 113 = N12 113).trans e113_12
  have e114_13 : N13 114 = _ := (by rw [hN13]; exact va_up_ne _ _ (by omega) : N13 114 = N12 114).trans e114_12
  have e115_13 : N13 115 = _ := (by rw [hN13]; exact va_up_ne _ _ (by omega) : N13 115 = N12 115).trans e115_12
  have e116_13 : N13 116 = _ := (by rw [hN13]; exact va_up_ne _ _ (by omega) : N13 116 = N12 116).trans e116_12
  have e117_13 : N13 117 = _ := (by rw [hN13]; exact va_up_ne _ _ (by omega) : N13 117 = N12 117).trans e117_12
  have e118_13 : N13 118 = .inl (g.2.2.1 1, 2, .inl fun _ => 0) := by rw [hN13]; exact va_up_self _ _ _
  have low_13 : ∀ q, q < 111 → N13 q = qmem g S0c q := fun q hq => (by rw [hN13]; exact va_up_ne _ _ (by omega) : N13 q = N12 q).trans (low_12 q hq)
  refine q_putF (o := 111) (ci := 8) (k := 10) (fs := [.int 0, .ref (qa g 112), .int 0, .int 0, .ref (qa g 113), .ref (qa g 114), .ref (qa g 115), .ref (qa g 116), .int 0, .ref (qa g 117), .null, .null, .null, .null, .null, .int 0, .int 0, .int 0, .int 0, .null, .null, .null]) (v := .ref (qa g 118)) C (by omega) e111_13 (rfl : vwCl[8]? = some (RX8, TX8, 22)) (Nat.le_of_ble_eq_true rfl) (qwi 943 (by decide +kernel) (by decide +kernel)) (by decide +kernel) hin rfl (tyX8_ok 10 (Nat.le_of_ble_eq_true rfl)) rfl rfl (Nat.le_of_ble_eq_true rfl) dX8_init_59 ?_
  show qR g 119 (qZ g 119) 1 p l e rmX8_init s m args below meth c 7 1738 (MQ below (qQv g 126 (qZ g 126) (qmem g S2)) args s 14 1891 (qA g)) (va_up N13 111 (.inr (8, [.int 0,.ref (qa g 112),.int 0,.int 0,.ref (qa g 113),.ref (qa g 114),.ref (qa g 115),.ref (qa g 116),.int 0,.ref (qa g 117),.ref (qa g 118),.null,.null,.null,.null,.int 0,.int 0,.int 0,.int 0,.null,.null,.null]))) 62 [(0, .ref (qa g 111))] []
  obtain ⟨N14, hN14⟩ : ∃ z, z = va_up N13 111 (.inr (8, [.int 0, .ref (qa g 112), .int 0, .int 0, .ref (qa g 113), .ref (qa g 114), .ref (qa g 115), .ref (qa g 116), .int 0, .ref (qa g 117), .ref (qa g 118), .null, .null, .null, .null, .int 0, .int 0, .int 0, .int 0, .null, .null, .null])) := ⟨_, rfl⟩
  refine q_name hN14 ?_
  have e111_14 : N14 111 = .inr (8, [.int 0, .ref (qa g 112), .int 0, .int 0, .ref (qa g 113), .ref (qa g 114), .ref (qa g 115), .ref (qa g 116), .int 0, .ref (qa g 117), .ref (qa g 118), .null, .null, .null, .null, .int 0, .int 0, .int 0, .int 0, .null, .null, .null]) := by rw [hN14]; exact va_up_self _ _ _
  have e112_14 : N14 112 = _ := (by rw [hN14]; exact va_up_ne _ _ (by omega) : N14 112 = N13 112).trans e112_13
  have e113_14 : N14 113 = _ := (by rw [hN14]; exact va_up_ne _ _ (by omega) : N14 113 = N13 113).trans e113_13
  have e114_14 : N14 114 = _ := (by rw [hN14]; exact va_up_ne _ _ (by omega) : N14 114 = N13 114).trans e114_13
  have e115_14 : N14 115 = _ := (by rw [hN14]; exact va_up_ne _ _ (by omega) : N14 115 = N13 115).trans e115_13
  have e116_14 : N14 116 = _ := (by rw [hN14]; exact va_up_ne _ _ (by omega) : N14 116 = N13 116).trans e116_13
  have e117_14 : N14 117 = _ := (by rw [hN14]; exact va_up_ne _ _ (by omega) : N14 117 = N13 117).trans e117_13
  have e118_14 : N14 118 = _ := (by rw [hN14]; exact va_up_ne _ _ (by omega) : N14 118 = N13 118).trans e118_13
  have low_14 : ∀ q, q < 111 → N14 q = qmem g S0c q := fun q hq => (by rw [hN14]; exact va_up_ne _ _ (by omega) : N14 q = N13 q).trans (low_13 q hq)
  refine q_aload_n C 0 dX8_init_62 rfl rfl ?_
  refine q_bipush (v := 25) C dX8_init_63 (by decide) ?_
  refine q_newa_i (n9 := 25) C ac_int (by decide) (by decide) (by decide) ⟨Nat.le_of_ble_eq_true rfl, Nat.le_of_ble_eq_true rfl⟩ dX8_init_65 ?_
  show qR g 120 (qZ g 120) 1 p l e rmX8_init s m args below meth c 8 1763 (MQ below (qQv g 126 (qZ g 126) (qmem g S2)) args s 14 1891 (qA g)) (va_up N14 119 (.inl (g.2.2.1 0, 25, .inl fun _ => 0))) 67 [(0, .ref (qa g 111))] (.ref (qa g 119) :: [.ref (qa g 111)])
  obtain ⟨N15, hN15⟩ : ∃ z, z = va_up N14 119 (.inl (g.2.2.1 0, 25, .inl fun _ => 0)) := ⟨_, rfl⟩
  refine q_name hN15 ?_
  have e111_15 : N15 111 = _ := (by rw [hN15]; exact va_up_ne _ _ (by omega) : N15 111 = N14 111).trans e111_14
  have e112_15 : N15 112 = _ := (by rw [hN15]; exact va_up_ne _ _ (by omega) : N15 112 = N14 112).trans e112_14
  have e113_15 : N15 113 = _ := (by rw [hN15]; exact va_up_ne _ _ (by omega) : N15 113 = N14 113).trans e113_14
  have e114_15 : N15 114 = _ := (by rw [hN15]; exact va_up_ne _ _ (by omega) : N15 114 = N14 114).trans e114_14
  have e115_15 : N15 115 = _ := (by rw [hN15]; exact va_up_ne _ _ (by omega) : N15 115 = N14 115).trans e115_14
  have e116_15 : N15 116 = _ := (by rw [hN15]; exact va_up_ne _ _ (by omega) : N15 116 = N14 116).trans e116_14
  have e117_15 : N15 117 = _ := (by rw [hN15]; exact va_up_ne _ _ (by omega) : N15 117 = N14 117).trans e117_14
  have e118_15 : N15 118 = _ := (by rw [hN15]; exact va_up_ne _ _ (by omega) : N15 118 = N14 118).trans e118_14
  have e119_15 : N15 119 = .inl (g.2.2.1 0, 25, .inl fun _ => 0) := by rw [hN15]; exact va_up_self _ _ _
  have low_15 : ∀ q, q < 111 → N15 q = qmem g S0c q := fun q hq => (by rw [hN15]; exact va_up_ne _ _ (by omega) : N15 q = N14 q).trans (low_14 q hq)
  refine q_putF (o := 111) (ci := 8) (k := 11) (fs := [.int 0, .ref (qa g 112), .int 0, .int 0, .ref (qa g 113), .ref (qa g 114), .ref (qa g 115), .ref (qa g 116), .int 0, .ref (qa g 117), .ref (qa g 118), .null, .null, .null, .null, .int 0, .int 0, .int 0, .int 0, .null, .null, .null]) (v := .ref (qa g 119)) C (by omega) e111_15 (rfl : vwCl[8]? = some (RX8, TX8, 22)) (Nat.le_of_ble_eq_true rfl) (qwi 944 (by decide +kernel) (by decide +kernel)) (by decide +kernel) hin rfl (tyX8_ok 11 (Nat.le_of_ble_eq_true rfl)) rfl rfl (Nat.le_of_ble_eq_true rfl) dX8_init_67 ?_
  show qR g 120 (qZ g 120) 1 p l e rmX8_init s m args below meth c 8 1763 (MQ below (qQv g 126 (qZ g 126) (qmem g S2)) args s 14 1891 (qA g)) (va_up N15 111 (.inr (8, [.int 0,.ref (qa g 112),.int 0,.int 0,.ref (qa g 113),.ref (qa g 114),.ref (qa g 115),.ref (qa g 116),.int 0,.ref (qa g 117),.ref (qa g 118),.ref (qa g 119),.null,.null,.null,.int 0,.int 0,.int 0,.int 0,.null,.null,.null]))) 70 [(0, .ref (qa g 111))] []
  obtain ⟨N16, hN16⟩ : ∃ z, z = va_up N15 111 (.inr (8, [.int 0, .ref (qa g 112), .int 0, .int 0, .ref (qa g 113), .ref (qa g 114), .ref (qa g 115), .ref (qa g 116), .int 0, .ref (qa g 117), .ref (qa g 118), .ref (qa g 119), .null, .null, .null, .int 0, .int 0, .int 0, .int 0, .null, .null, .null])) := ⟨_, rfl⟩
  refine q_name hN16 ?_
  have e111_16 : N16 111 = .inr (8, [.int 0, .ref (qa g 112), .int 0, .int 0, .ref (qa g 113), .ref (qa g 114), .ref (qa g 115), .ref (qa g 116), .int 0, .ref (qa g 117), .ref (qa g 118), .ref (qa g 119), .null, .null, .null, .int 0, .int 0, .int 0, .int 0, .null, .null, .null]) := by rw [hN16]; exact va_up_self _ _ _
  have e112_16 : N16 112 = _ := (by rw [hN16]; exact va_up_ne _ _ (by omega) : N16 112 = N15 112).trans e112_15
  have e113_16 : N16 113 = _ := (by rw [hN16]; exact va_up_ne _ _ (by omega) : N16 113 = N15 113).trans e113_15
  have e114_16 : N16 114 = _ := (by rw [hN16]; exact va_up_ne _ _ (by omega) : N16 114 = N15 114).trans e114_15
  have e115_16 : N16 115 = _ := (by rw [hN16]; exact va_up_ne _ _ (by omega) : N16 115 = N15 115).trans e115_15
  have e116_16 : N16 116 = _ := (by rw [hN16]; exact va_up_ne _ _ (by omega) : N16 116 = N15 116).trans e116_15
  have e117_16 : N16 117 = _ := (by rw [hN16]; exact va_up_ne _ _ (by omega) : N16 117 = N15 117).trans e117_15
  have e118_16 : N16 118 = _ := (by rw [hN16]; exact va_up_ne _ _ (by omega) : N16 118 = N15 118).trans e118_15
  have e119_16 : N16 119 = _ := (by rw [hN16]; exact va_up_ne _ _ (by omega) : N16 119 = N15 119).trans e119_15
  have low_16 : ∀ q, q < 111 → N16 q = qmem g S0c q := fun q hq => (by rw [hN16]; exact va_up_ne _ _ (by omega) : N16 q = N15 q).trans (low_15 q hq)
  refine q_aload_n C 0 dX8_init_70 rfl rfl ?_
  refine q_bipush (v := 81) C dX8_init_71 (by decide) ?_
  refine q_newa_i (n9 := 81) C ac_int (by decide) (by decide) (by decide) ⟨Nat.le_of_ble_eq_true rfl, Nat.le_of_ble_eq_true rfl⟩ dX8_init_73 ?_
  show qR g 121 (qZ g 121) 1 p l e rmX8_init s m args below meth c 9 1844 (MQ below (qQv g 126 (qZ g 126) (qmem g S2)) args s 14 1891 (qA g)) (va_up N16 120 (.inl (g.2.2.1 0, 81, .inl fun _ => 0))) 75 [(0, .ref (qa g 111))] (.ref (qa g 120) :: [.ref (qa g 111)])
  obtain ⟨N17, hN17⟩ : ∃ z, z = va_up N16 120 (.inl (g.2.2.1 0, 81, .inl fun _ => 0)) := ⟨_, rfl⟩
  refine q_name hN17 ?_
  have e111_17 : N17 111 = _ := (by rw [hN17]; exact va_up_ne _ _ (by omega) : N17 111 = N16 111).trans e111_16
  have e112_17 : N17 112 = _ := (by rw [hN17]; exact va_up_ne _ _ (by omega) : N17 112 = N16 112).trans e112_16
  have e113_17 : N17 113 = _ := (by rw [hN17]; exact va_up_ne _ _ (by omega) : N17 113 = N16 113).trans e113_16
  have e114_17 : N17 114 = _ := (by rw [hN17]; exact va_up_ne _ _ (by omega) : N17 114 = N16 114).trans e114_16
  have e115_17 : N17 115 = _ := (by rw [hN17]; exact va_up_ne _ _ (by omega) : N17 115 = N16 115).trans e115_16
  have e116_17 : N17 116 = _ := (by rw [hN17]; exact va_up_ne _ _ (by omega) : N17 116 = N16 116).trans e116_16
  have e117_17 : N17 117 = _ := (by rw [hN17]; exact va_up_ne _ _ (by omega) : N17 117 = N16 117).trans e117_16
  have e118_17 : N17 118 = _ := (by rw [hN17]; exact va_up_ne _ _ (by omega) : N17 118 = N16 118).trans e118_16
  have e119_17 : N17 119 = _ := (by rw [hN17]; exact va_up_ne _ _ (by omega) : N17 119 = N16 119).trans e119_16
  have e120_17 : N17 120 = .inl (g.2.2.1 0, 81, .inl fun _ => 0) := by rw [hN17]; exact va_up_self _ _ _
  have low_17 : ∀ q, q < 111 → N17 q = qmem g S0c q := fun q hq => (by rw [hN17]; exact va_up_ne _ _ (by omega) : N17 q = N16 q).trans (low_16 q hq)
  refine q_putF (o := 111) (ci := 8) (k := 12) (fs := [.int 0, .ref (qa g 112), .int 0, .int 0, .ref (qa g 113), .ref (qa g 114), .ref (qa g 115), .ref (qa g 116), .int 0, .ref (qa g 117), .ref (qa g 118), .ref (qa g 119), .null, .null, .null, .int 0, .int 0, .int 0, .int 0, .null, .null, .null]) (v := .ref (qa g 120)) C (by omega) e111_17 (rfl : vwCl[8]? = some (RX8, TX8, 22)) (Nat.le_of_ble_eq_true rfl) (qwi 945 (by decide +kernel) (by decide +kernel)) (by decide +kernel) hin rfl (tyX8_ok 12 (Nat.le_of_ble_eq_true rfl)) rfl rfl (Nat.le_of_ble_eq_true rfl) dX8_init_75 ?_
  show qR g 121 (qZ g 121) 1 p l e rmX8_init s m args below meth c 9 1844 (MQ below (qQv g 126 (qZ g 126) (qmem g S2)) args s 14 1891 (qA g)) (va_up N17 111 (.inr (8, [.int 0,.ref (qa g 112),.int 0,.int 0,.ref (qa g 113),.ref (qa g 114),.ref (qa g 115),.ref (qa g 116),.int 0,.ref (qa g 117),.ref (qa g 118),.ref (qa g 119),.ref (qa g 120),.null,.null,.int 0,.int 0,.int 0,.int 0,.null,.null,.null]))) 78 [(0, .ref (qa g 111))] []
  obtain ⟨N18, hN18⟩ : ∃ z, z = va_up N17 111 (.inr (8, [.int 0, .ref (qa g 112), .int 0, .int 0, .ref (qa g 113), .ref (qa g 114), .ref (qa g 115), .ref (qa g 116), .int 0, .ref (qa g 117), .ref (qa g 118), .ref (qa g 119), .ref (qa g 120), .null, .null, .int 0, .int 0, .int 0, .int 0, .null, .null, .null])) := ⟨_, rfl⟩
  refine q_name hN18 ?_
  have e111_18 : N18 111 = .inr (8, [.int 0, .ref (qa g 112), .int 0, .int 0, .ref (qa g 113), .ref (qa g 114), .ref (qa g 115), .ref (qa g 116), .int 0, .ref (qa g 117), .ref (qa g 118), .ref (qa g 119), .ref (qa g 120), .null, .null, .int 0, .int 0, .int 0, .int 0, .null, .null, .null]) := by rw [hN18]; exact va_up_self _ _ _
  have e112_18 : N18 112 = _ := (by rw [hN18]; exact va_up_ne _ _ (by omega) : N18 112 = N17 112).trans e112_17
  have e113_18 : N18 113 = _ := (by rw [hN18]; exact va_up_ne _ _ (by omega) : N18 113 = N17 113).trans e113_17
  have e114_18 : N18 114 = _ := (by rw [hN18]; exact va_up_ne _ _ (by omega) : N18 114 = N17 114).trans e114_17
  have e115_18 : N18 115 = _ := (by rw [hN18]; exact va_up_ne _ _ (by omega) : N18 115 = N17 115).trans e115_17
  have e116_18 : N18 116 = _ := (by rw [hN18]; exact va_up_ne _ _ (by omega) : N18 116 = N17 116).trans e116_17
  have e117_18 : N18 117 = _ := (by rw [hN18]; exact va_up_ne _ _ (by omega) : N18 117 = N17 117).trans e117_17
  have e118_18 : N18 118 = _ := (by rw [hN18]; exact va_up_ne _ _ (by omega) : N18 118 = N17 118).trans e118_17
  have e119_18 : N18 119 = _ := (by rw [hN18]; exact va_up_ne _ _ (by omega) : N18 119 = N17 119).trans e119_17
  have e120_18 : N18 120 = _ := (by rw [hN18]; exact va_up_ne _ _ (by omega) : N18 120 = N17 120).trans e120_17
  have low_18 : ∀ q, q < 111 → N18 q = qmem g S0c q := fun q hq => (by rw [hN18]; exact va_up_ne _ _ (by omega) : N18 q = N17 q).trans (low_17 q hq)
  refine q_aload_n C 0 dX8_init_78 rfl rfl ?_
  refine q_bipush (v := 9) C dX8_init_79 (by decide) ?_
  refine q_newa_i (n9 := 9) C ac_int (by decide) (by decide) (by decide) ⟨Nat.le_of_ble_eq_true rfl, Nat.le_of_ble_eq_true rfl⟩ dX8_init_81 ?_
  show qR g 122 (qZ g 122) 1 p l e rmX8_init s m args below meth c 10 1853 (MQ below (qQv g 126 (qZ g 126) (qmem g S2)) args s 14 1891 (qA g)) (va_up N18 121 (.inl (g.2.2.1 0, 9, .inl fun _ => 0))) 83 [(0, .ref (qa g 111))] (.ref (qa g 121) :: [.ref (qa g 111)])
  obtain ⟨N19, hN19⟩ : ∃ z, z = va_up N18 121 (.inl (g.2.2.1 0, 9, .inl fun _ => 0)) := ⟨_, rfl⟩
  refine q_name hN19 ?_
  have e111_19 : N19 111 = _ := (by rw [hN19]; exact va_up_ne _ _ (by omega) : N19 111 = N18 111).trans e111_18
  have e112_19 : N19 112 = _ := (by rw [hN19]; exact va_up_ne _ _ (by omega) : N19 112 = N18 112).trans e112_18
  have e113_19 : N19 113 = _ := (by rw [hN19]; exact va_up_ne _ _ (by omega) : N19 113 = N18 113).trans e113_18
  have e114_19 : N19 114 = _ := (by rw [hN19]; exact va_up_ne _ _ (by omega) : N19 114 = N18 114).trans e114_18
  have e115_19 : N19 115 = _ := (by rw [hN19]; exact va_up_ne _ _ (by omega) : N19 115 = N18 115).trans e115_18
  have e116_19 : N19 116 = _ := (by rw [hN19]; exact va_up_ne _ _ (by omega) : N19 116 = N18 116).trans e116_18
  have e117_19 : N19 117 = _ := (by rw [hN19]; exact va_up_ne _ _ (by omega) : N19 117 = N18 117).trans e117_18
  have e118_19 : N19 118 = _ := (by rw [hN19]; exact va_up_ne _ _ (by omega) : N19 118 = N18 118).trans e118_18
  have e119_19 : N19 119 = _ := (by rw [hN19]; exact va_up_ne _ _ (by omega) : N19 119 = N18 119).trans e119_18
  have e120_19 : N19 120 = _ := (by rw [hN19]; exact va_up_ne _ _ (by omega) : N19 120 = N18 120).trans e120_18
  have e121_19 : N19 121 = .inl (g.2.2.1 0, 9, .inl fun _ => 0) := by rw [hN19]; exact va_up_self _ _ _
  have low_19 : ∀ q, q < 111 → N19 q = qmem g S0c q := fun q hq => (by rw [hN19]; exact va_up_ne _ _ (by omega) : N19 q = N18 q).trans (low_18 q hq)
  refine q_putF (o := 111) (ci := 8) (k := 13) (fs := [.int 0, .ref (qa g 112), .int 0, .int 0, .ref (qa g 113), .ref (qa g 114), .ref (qa g 115), .ref (qa g 116), .int 0, .ref (qa g 117), .ref (qa g 118), .ref (qa g 119), .ref (qa g 120), .null, .null, .int 0, .int 0, .int 0, .int 0, .null, .null, .null]) (v := .ref (qa g 121)) C (by omega) e111_19 (rfl : vwCl[8]? = some (RX8, TX8, 22)) (Nat.le_of_ble_eq_true rfl) (qwi 946 (by decide +kernel) (by decide +kernel)) (by decide +kernel) hin rfl (tyX8_ok 13 (Nat.le_of_ble_eq_true rfl)) rfl rfl (Nat.le_of_ble_eq_true rfl) dX8_init_83 ?_
  show qR g 122 (qZ g 122) 1 p l e rmX8_init s m args below meth c 10 1853 (MQ below (qQv g 126 (qZ g 126) (qmem g S2)) args s 14 1891 (qA g)) (va_up N19 111 (.inr (8, [.int 0,.ref (qa g 112),.int 0,.int 0,.ref (qa g 113),.ref (qa g 114),.ref (qa g 115),.ref (qa g 116),.int 0,.ref (qa g 117),.ref (qa g 118),.ref (qa g 119),.ref (qa g 120),.ref (qa g 121),.null,.int 0,.int 0,.int 0,.int 0,.null,.null,.null]))) 86 [(0, .ref (qa g 111))] []
  obtain ⟨N20, hN20⟩ : ∃ z, z = va_up N19 111 (.inr (8, [.int 0, .ref (qa g 112), .int 0, .int 0, .ref (qa g 113), .ref (qa g 114), .ref (qa g 115), .ref (qa g 116), .int 0, .ref (qa g 117), .ref (qa g 118), .ref (qa g 119), .ref (qa g 120), .ref (qa g 121), .null, .int 0, .int 0, .int 0, .int 0, .null, .null, .null])) := ⟨_, rfl⟩
  refine q_name hN20 ?_
  have e111_20 : N20 111 = .inr (8, [.int 0, .ref (qa g 112), .int 0, .int 0, .ref (qa g 113), .ref (qa g 114), .ref (qa g 115), .ref (qa g 116), .int 0, .ref (qa g 117), .ref (qa g 118), .ref (qa g 119), .ref (qa g 120), .ref (qa g 121), .null, .int 0, .int 0, .int 0, .int 0, .null, .null, .null]) := by rw [hN20]; exact va_up_self _ _ _
  have e112_20 : N20 112 = _ := (by rw [hN20]; exact va_up_ne _ _ (by omega) : N20 112 = N19 112).trans e112_19
  have e113_20 : N20 113 = _ := (by rw [hN20]; exact va_up_ne _ _ (by omega) : N20 113 = N19 113).trans e113_19
  have e114_20 : N20 114 = _ := (by rw [hN20]; exact va_up_ne _ _ (by omega) : N20 114 = N19 114).trans e114_19
  have e115_20 : N20 115 = _ := (by rw [hN20]; exact va_up_ne _ _ (by omega) : N20 115 = N19 115).trans e115_19
  have e116_20 : N20 116 = _ := (by rw [hN20]; exact va_up_ne _ _ (by omega) : N20 116 = N19 116).trans e116_19
  have e117_20 : N20 117 = _ := (by rw [hN20]; exact va_up_ne _ _ (by omega) : N20 117 = N19 117).trans e117_19
  have e118_20 : N20 118 = _ := (by rw [hN20]; exact va_up_ne _ _ (by omega) : N20 118 = N19 118).trans e118_19
  have e119_20 : N20 119 = _ := (by rw [hN20]; exact va_up_ne _ _ (by omega) : N20 119 = N19 119).trans e119_19
  have e120_20 : N20 120 = _ := (by rw [hN20]; exact va_up_ne _ _ (by omega) : N20 120 = N19 120).trans e120_19
  have e121_20 : N20 121 = _ := (by rw [hN20]; exact va_up_ne _ _ (by omega) : N20 121 = N19 121).trans e121_19
  have low_20 : ∀ q, q < 111 → N20 q = qmem g S0c q := fun q hq => (by rw [hN20]; exact va_up_ne _ _ (by omega) : N20 q = N19 q).trans (low_19 q hq)
  refine q_aload_n C 0 dX8_init_86 rfl rfl ?_
  refine q_bipush (v := 9) C dX8_init_87 (by decide) ?_
  refine q_newa_i (n9 := 9) C ac_int (by decide) (by decide) (by decide) ⟨Nat.le_of_ble_eq_true rfl, Nat.le_of_ble_eq_true rfl⟩ dX8_init_89 ?_
  show qR g 123 (qZ g 123) 1 p l e rmX8_init s m args below meth c 11 1862 (MQ below (qQv g 126 (qZ g 126) (qmem g S2)) args s 14 1891 (qA g)) (va_up N20 122 (.inl (g.2.2.1 0, 9, .inl fun _ => 0))) 91 [(0, .ref (qa g 111))] (.ref (qa g 122) :: [.ref (qa g 111)])
  obtain ⟨N21, hN21⟩ : ∃ z, z = va_up N20 122 (.inl (g.2.2.1 0, 9, .inl fun _ => 0)) := ⟨_, rfl⟩
  refine q_name hN21 ?_
  have e111_21 : N21 111 = _ := (by rw [hN21]; exact va_up_ne _ _ (by omega) : N21 111 = N20 111).trans e111_20
  have e112_21 : N21 112 = _ := (by rw [hN21]; exact va_up_ne _ _ (by omega) : N21 112 = N20 112).trans e112_20
  have e113_21 : N21 113 = _ := (by rw [hN21]; exact va_up_ne _ _ (by omega) : N21 113 = N20 113).trans e113_20
  have e114_21 : N21 114 = _ := (by rw [hN21]; exact va_up_ne _ _ (by omega) : N21 114 = N20 114).trans e114_20
  have e115_21 : N21 115 = _ := (by rw [hN21]; exact va_up_ne _ _ (by omega) : N21 115 = N20 115).trans e115_20
  have e116_21 : N21 116 = _ := (by rw [hN21]; exact va_up_ne _ _ (by omega) : N21 116 = N20 116).trans e116_20
  have e117_21 : N21 117 = _ := (by rw [hN21]; exact va_up_ne _ _ (by omega) : N21 117 = N20 117).trans e117_20
  have e118_21 : N21 118 = _ := (by rw [hN21]; exact va_up_ne _ _ (by omega) : N21 118 = N20 118).trans e118_20
  have e119_21 : N21 119 = _ := (by rw [hN21]; exact va_up_ne _ _ (by omega) : N21 119 = N20 119).trans e119_20
  have e120_21 : N21 120 = _ := (by rw [hN21]; exact va_up_ne _ _ (by omega) : N21 120 = N20 120).trans e120_20
  have e121_21 : N21 121 = _ := (by rw [hN21]; exact va_up_ne _ _ (by omega) : N21 121 = N20 121).trans e121_20
  have e122_21 : N21 122 = .inl (g.2.2.1 0, 9, .inl fun _ => 0) := by rw [hN21]; exact va_up_self _ _ _
  have low_21 : ∀ q, q < 111 → N21 q = qmem g S0c q := fun q hq => (by rw [hN21]; exact va_up_ne _ _ (by omega) : N21 q = N20 q).trans (low_20 q hq)
  refine q_putF (o := 111) (ci := 8) (k := 14) (fs := [.int 0, .ref (qa g 112), .int 0, .int 0, .ref (qa g 113), .ref (qa g 114), .ref (qa g 115), .ref (qa g 116), .int 0, .ref (qa g 117), .ref (qa g 118), .ref (qa g 119), .ref (qa g 120), .ref (qa g 121), .null, .int 0, .int 0, .int 0, .int 0, .null, .null, .null]) (v := .ref (qa g 122)) C (by omega) e111_21 (rfl : vwCl[8]? = some (RX8, TX8, 22)) (Nat.le_of_ble_eq_true rfl) (qwi 947 (by decide +kernel) (by decide +kernel)) (by decide +kernel) hin rfl (tyX8_ok 14 (Nat.le_of_ble_eq_true rfl)) rfl rfl (Nat.le_of_ble_eq_true rfl) dX8_init_91 ?_
  show qR g 123 (qZ g 123) 1 p l e rmX8_init s m args below meth c 11 1862 (MQ below (qQv g 126 (qZ g 126) (qmem g S2)) args s 14 1891 (qA g)) (va_up N21 111 (.inr (8, [.int 0,.ref (qa g 112),.int 0,.int 0,.ref (qa g 113),.ref (qa g 114),.ref (qa g 115),.ref (qa g 116),.int 0,.ref (qa g 117),.ref (qa g 118),.ref (qa g 119),.ref (qa g 120),.ref (qa g 121),.ref (qa g 122),.int 0,.int 0,.int 0,.int 0,.null,.null,.null]))) 94 [(0, .ref (qa g 111))] []
  obtain ⟨N22, hN22⟩ : ∃ z, z = va_up N21 111 (.inr (8, [.int 0, .ref (qa g 112), .int 0, .int 0, .ref (qa g 113), .ref (qa g 114), .ref (qa g 115), .ref (qa g 116), .int 0, .ref (qa g 117), .ref (qa g 118), .ref (qa g 119), .ref (qa g 120), .ref (qa g 121), .ref (qa g 122), .int 0, .int 0, .int 0, .int 0, .null, .null, .null])) := ⟨_, rfl⟩
  refine q_name hN22 ?_
  have e111_22 : N22 111 = .inr (8, [.int 0, .ref (qa g 112), .int 0, .int 0, .ref (qa g 113), .ref (qa g 114), .ref (qa g 115), .ref (qa g 116), .int 0, .ref (qa g 117), .ref (qa g 118), .ref (qa g 119), .ref (qa g 120), .ref (qa g 121), .ref (qa g 122), .int 0, .int 0, .int 0, .int 0, .null, .null, .null]) := by rw [hN22]; exact va_up_self _ _ _
  have e112_22 : N22 112 = _ := (by rw [hN22]; exact va_up_ne _ _ (by omega) : N22 112 = N21 112).trans e112_21
  have e113_22 : N22 113 = _ := (by rw [hN22]; exact va_up_ne _ _ (by omega) : N22 113 = N21 113).trans e113_21
  have e114_22 : N22 114 = _ := (by rw [hN22]; exact va_up_ne _ _ (by omega) : N22 114 = N21 114).trans e114_21
  have e115_22 : N22 115 = _ := (by rw [hN22]; exact va_up_ne _ _ (by omega) : N22 115 = N21 115).trans e115_21
  have e116_22 : N22 116 = _ := (by rw [hN22]; exact va_up_ne _ _ (by omega) : N22 116 = N21 116).trans e116_21
  have e117_22 : N22 117 = _ := (by rw [hN22]; exact va_up_ne _ _ (by omega) : N22 117 = N21 117).trans e117_21
  have e118_22 : N22 118 = _ := (by rw [hN22]; exact va_up_ne _ _ (by omega) : N22 118 = N21 118).trans e118_21
  have e119_22 : N22 119 = _ := (by rw [hN22]; exact va_up_ne _ _ (by omega) : N22 119 = N21 119).trans e119_21
  have e120_22 : N22 120 = _ := (by rw [hN22]; exact va_up_ne _ _ (by omega) : N22 120 = N21 120).trans e120_21
  have e121_22 : N22 121 = _ := (by rw [hN22]; exact va_up_ne _ _ (by omega) : N22 121 = N21 121).trans e121_21
  have e122_22 : N22 122 = _ := (by rw [hN22]; exact va_up_ne _ _ (by omega) : N22 122 = N21 122).trans e122_21
  have low_22 : ∀ q, q < 111 → N22 q = qmem g S0c q := fun q hq => (by rw [hN22]; exact va_up_ne _ _ (by omega) : N22 q = N21 q).trans (low_21 q hq)
  refine q_aload_n C 0 dX8_init_94 rfl rfl ?_
  refine q_bipush (v := 10) C dX8_init_95 (by decide) ?_
  refine q_newa_i (n9 := 10) C ac_int (by decide) (by decide) (by decide) ⟨Nat.le_of_ble_eq_true rfl, Nat.le_of_ble_eq_true rfl⟩ dX8_init_97 ?_
  show qR g 124 (qZ g 124) 1 p l e rmX8_init s m args below meth c 12 1872 (MQ below (qQv g 126 (qZ g 126) (qmem g S2)) args s 14 1891 (qA g)) (va_up N22 123 (.inl (g.2.2.1 0, 10, .inl fun _ => 0))) 99 [(0, .ref (qa g 111))] (.ref (qa g 123) :: [.ref (qa g 111)])
  obtain ⟨N23, hN23⟩ : ∃ z, z = va_up N22 123 (.inl (g.2.2.1 0, 10, .inl fun _ => 0)) := ⟨_, rfl⟩
  refine q_name hN23 ?_
  have e111_23 : N23 111 = _ := (by rw [hN23]; exact va_up_ne _ _ (by omega) : N23 111 = N22 111).trans e111_22
  have e112_23 : N23 112 = _ := (by rw [hN23]; exact va_up_ne _ _ (by omega) : N23 112 = N22 112).trans e112_22
  have e113_23 : N23 113 = _ := (by rw [hN23]; exact va_up_ne _ _ (by omega) : N23 113 = N22 113).trans e113_22
  have e114_23 : N23 114 = _ := (by rw [hN23]; exact va_up_ne _ _ (by omega) : N23 114 = N22 114).trans e114_22
  have e115_23 : N23 115 = _ := (by rw [hN23]; exact va_up_ne _ _ (by omega) : N23 115 = N22 115).trans e115_22
  have e116_23 : N23 116 = _ := (by rw [hN23]; exact va_up_ne _ _ (by omega) : N23 116 = N22 116).trans e116_22
  have e117_23 : N23 117 = _ := (by rw [hN23]; exact va_up_ne _ _ (by omega) : N23 117 = N22 117).trans e117_22
  have e118_23 : N23 118 = _ := (by rw [hN23]; exact va_up_ne _ _ (by omega) : N23 118 = N22 118).trans e118_22
  have e119_23 : N23 119 = _ := (by rw [hN23]; exact va_up_ne _ _ (by omega) : N23 119 = N22 119).trans e119_22
  have e120_23 : N23 120 = _ := (by rw [hN23]; exact va_up_ne _ _ (by omega) : N23 120 = N22 120).trans e120_22
  have e121_23 : N23 121 = _ := (by rw [hN23]; exact va_up_ne _ _ (by omega) : N23 121 = N22 121).trans e121_22
  have e122_23 : N23 122 = _ := (by rw [hN23]; exact va_up_ne _ _ (by omega) : N23 122 = N22 122).trans e122_22
  have e123_23 : N23 123 = .inl (g.2.2.1 0, 10, .inl fun _ => 0) := by rw [hN23]; exact va_up_self _ _ _
  have low_23 : ∀ q, q < 111 → N23 q = qmem g S0c q := fun q hq => (by rw [hN23]; exact va_up_ne _ _ (by omega) : N23 q = N22 q).trans (low_22 q hq)
  refine q_putF (o := 111) (ci := 8) (k := 19) (fs := [.int 0, .ref (qa g 112), .int 0, .int 0, .ref (qa g 113), .ref (qa g 114), .ref (qa g 115), .ref (qa g 116), .int 0, .ref (qa g 117), .ref (qa g 118), .ref (qa g 119), .ref (qa g 120), .ref (qa g 121), .ref (qa g 122), .int 0, .int 0, .int 0, .int 0, .null, .null, .null]) (v := .ref (qa g 123)) C (by omega) e111_23 (rfl : vwCl[8]? = some (RX8, TX8, 22)) (Nat.le_of_ble_eq_true rfl) (qwi 952 (by decide +kernel) (by decide +kernel)) (by decide +kernel) hin rfl (tyX8_ok 19 (Nat.le_of_ble_eq_true rfl)) rfl rfl (Nat.le_of_ble_eq_true rfl) dX8_init_99 ?_
  show qR g 124 (qZ g 124) 1 p l e rmX8_init s m args below meth c 12 1872 (MQ below (qQv g 126 (qZ g 126) (qmem g S2)) args s 14 1891 (qA g)) (va_up N23 111 (.inr (8, [.int 0,.ref (qa g 112),.int 0,.int 0,.ref (qa g 113),.ref (qa g 114),.ref (qa g 115),.ref (qa g 116),.int 0,.ref (qa g 117),.ref (qa g 118),.ref (qa g 119),.ref (qa g 120),.ref (qa g 121),.ref (qa g 122),.int 0,.int 0,.int 0,.int 0,.ref (qa g 123),.null,.null]))) 102 [(0, .ref (qa g 111))] []
  obtain ⟨N24, hN24⟩ : ∃ z, z = va_up N23 111 (.inr (8, [.int 0, .ref (qa g 112), .int 0, .int 0, .ref (qa g 113), .ref (qa g 114), .ref (qa g 115), .ref (qa g 116), .int 0, .ref (qa g 117), .ref (qa g 118), .ref (qa g 119), .ref (qa g 120), .ref (qa g 121), .ref (qa g 122), .int 0, .int 0, .int 0, .int 0, .ref (qa g 123), .null, .null])) := ⟨_, rfl⟩
  refine q_name hN24 ?_
  have e111_24 : N24 111 = .inr (8, [.int 0, .ref (qa g 112), .int 0, .int 0, .ref (qa g 113), .ref (qa g 114), .ref (qa g 115), .ref (qa g 116), .int 0, .ref (qa g 117), .ref (qa g 118), .ref (qa g 119), .ref (qa g 120), .ref (qa g 121), .ref (qa g 122), .int 0, .int 0, .int 0, .int 0, .ref (qa g 123), .null, .null]) := by rw [hN24]; exact va_up_self _ _ _
  have e112_24 : N24 112 = _ := (by rw [hN24]; exact va_up_ne _ _ (by omega) : N24 112 = N23 112).trans e112_23
  have e113_24 : N24 113 = _ := (by rw [hN24]; exact va_up_ne _ _ (by omega) : N24 113 = N23 113).trans e113_23
  have e114_24 : N24 114 = _ := (by rw [hN24]; exact va_up_ne _ _ (by omega) : N24 114 = N23 114).trans e114_23
  have e115_24 : N24 115 = _ := (by rw [hN24]; exact va_up_ne _ _ (by omega) : N24 115 = N23 115).trans e115_23
  have e116_24 : N24 116 = _ := (by rw [hN24]; exact va_up_ne _ _ (by omega) : N24 116 = N23 116).trans e116_23
  have e117_24 : N24 117 = _ := (by rw [hN24]; exact va_up_ne _ _ (by omega) : N24 117 = N23 117).trans e117_23
  have e118_24 : N24 118 = _ := (by rw [hN24]; exact va_up_ne _ _ (by omega) : N24 118 = N23 118).trans e118_23
  have e119_24 : N24 119 = _ := (by rw [hN24]; exact va_up_ne _ _ (by omega) : N24 119 = N23 119).trans e119_23
  have e120_24 : N24 120 = _ := (by rw [hN24]; exact va_up_ne _ _ (by omega) : N24 120 = N23 120).trans e120_23
  have e121_24 : N24 121 = _ := (by rw [hN24]; exact va_up_ne _ _ (by omega) : N24 121 = N23 121).trans e121_23
  have e122_24 : N24 122 = _ := (by rw [hN24]; exact va_up_ne _ _ (by omega) : N24 122 = N23 122).trans e122_23
  have e123_24 : N24 123 = _ := (by rw [hN24]; exact va_up_ne _ _ (by omega) : N24 123 = N23 123).trans e123_23
  have low_24 : ∀ q, q < 111 → N24 q = qmem g S0c q := fun q hq => (by rw [hN24]; exact va_up_ne _ _ (by omega) : N24 q = N23 q).trans (low_23 q hq)
  refine q_aload_n C 0 dX8_init_102 rfl rfl ?_
  refine q_bipush (v := 10) C dX8_init_103 (by decide) ?_
  refine q_newa_i (n9 := 10) C ac_int (by decide) (by decide) (by decide) ⟨Nat.le_of_ble_eq_true rfl, Nat.le_of_ble_eq_true rfl⟩ dX8_init_105 ?_
  show qR g 125 (qZ g 125) 1 p l e rmX8_init s m args below meth c 13 1882 (MQ below (qQv g 126 (qZ g 126) (qmem g S2)) args s 14 1891 (qA g)) (va_up N24 124 (.inl (g.2.2.1 0, 10, .inl fun _ => 0))) 107 [(0, .ref (qa g 111))] (.ref (qa g 124) :: [.ref (qa g 111)])
  obtain ⟨N25, hN25⟩ : ∃ z, z = va_up N24 124 (.inl (g.2.2.1 0, 10, .inl fun _ => 0)) := ⟨_, rfl⟩
  refine q_name hN25 ?_
  have e111_25 : N25 111 = _ := (by rw [hN25]; exact va_up_ne _ _ (by omega) : N25 111 = N24 111).trans e111_24
  have e112_25 : N25 112 = _ := (by rw [hN25]; exact va_up_ne _ _ (by omega) : N25 112 = N24 112).trans e112_24
  have e113_25 : N25 113 = _ := (by rw [hN25]; exact va_up_ne _ _ (by omega) : N25 113 = N24 113).trans e113_24
  have e114_25 : N25 114 = _ := (by rw [hN25]; exact va_up_ne _ _ (by omega) : N25 114 = N24 114).trans e114_24
  have e115_25 : N25 115 = _ := (by rw [hN25]; exact va_up_ne _ _ (by omega) : N25 115 = N24 115).trans e115_24
  have e116_25 : N25 116 = _ := (by rw [hN25]; exact va_up_ne _ _ (by omega) : N25 116 = N24 116).trans e116_24
  have e117_25 : N25 117 = _ := (by rw [hN25]; exact va_up_ne _ _ (by omega) : N25 117 = N24 117).trans e117_24
  have e118_25 : N25 118 = _ := (by rw [hN25]; exact va_up_ne _ _ (by omega) : N25 118 = N24 118).trans e118_24
  have e119_25 : N25 119 = _ := (by rw [hN25]; exact va_up_ne _ _ (by omega) : N25 119 = N24 119).trans e119_24
  have e120_25 : N25 120 = _ := (by rw [hN25]; exact va_up_ne _ _ (by omega) : N25 120 = N24 120).trans e120_24
  have e121_25 : N25 121 = _ := (by rw [hN25]; exact va_up_ne _ _ (by omega) : N25 121 = N24 121).trans e121_24
  have e122_25 : N25 122 = _ := (by rw [hN25]; exact va_up_ne _ _ (by omega) : N25 122 = N24 122).trans e122_24
  have e123_25 : N25 123 = _ := (by rw [hN25]; exact va_up_ne _ _ (by omega) : N25 123 = N24 123).trans e123_24
  have e124_25 : N25 124 = .inl (g.2.2.1 0, 10, .inl fun _ => 0) := by rw [hN25]; exact va_up_self _ _ _
  have low_25 : ∀ q, q < 111 → N25 q = qmem g S0c q := fun q hq => (by rw [hN25]; exact va_up_ne _ _ (by omega) : N25 q = N24 q).trans (low_24 q hq)
  refine q_putF (o := 111) (ci := 8) (k := 20) (fs := [.int 0, .ref (qa g 112), .int 0, .int 0, .ref (qa g 113), .ref (qa g 114), .ref (qa g 115), .ref (qa g 116), .int 0, .ref (qa g 117), .ref (qa g 118), .ref (qa g 119), .ref (qa g 120), .ref (qa g 121), .ref (qa g 122), .int 0, .int 0, .int 0, .int 0, .ref (qa g 123), .null, .null]) (v := .ref (qa g 124)) C (by omega) e111_25 (rfl : vwCl[8]? = some (RX8, TX8, 22)) (Nat.le_of_ble_eq_true rfl) (qwi 953 (by decide +kernel) (by decide +kernel)) (by decide +kernel) hin rfl (tyX8_ok 20 (Nat.le_of_ble_eq_true rfl)) rfl rfl (Nat.le_of_ble_eq_true rfl) dX8_init_107 ?_
  show qR g 125 (qZ g 125) 1 p l e rmX8_init s m args below meth c 13 1882 (MQ below (qQv g 126 (qZ g 126) (qmem g S2)) args s 14 1891 (qA g)) (va_up N25 111 (.inr (8, [.int 0,.ref (qa g 112),.int 0,.int 0,.ref (qa g 113),.ref (qa g 114),.ref (qa g 115),.ref (qa g 116),.int 0,.ref (qa g 117),.ref (qa g 118),.ref (qa g 119),.ref (qa g 120),.ref (qa g 121),.ref (qa g 122),.int 0,.int 0,.int 0,.int 0,.ref (qa g 123),.ref (qa g 124),.null]))) 110 [(0, .ref (qa g 111))] []
  obtain ⟨N26, hN26⟩ : ∃ z, z = va_up N25 111 (.inr (8, [.int 0, .ref (qa g 112), .int 0, .int 0, .ref (qa g 113), .ref (qa g 114), .ref (qa g 115), .ref (qa g 116), .int 0, .ref (qa g 117), .ref (qa g 118), .ref (qa g 119), .ref (qa g 120), .ref (qa g 121), .ref (qa g 122), .int 0, .int 0, .int 0, .int 0, .ref (qa g 123), .ref (qa g 124), .null])) := ⟨_, rfl⟩
  refine q_name hN26 ?_
  have e111_26 : N26 111 = .inr (8, [.int 0, .ref (qa g 112), .int 0, .int 0, .ref (qa g 113), .ref (qa g 114), .ref (qa g 115), .ref (qa g 116), .int 0, .ref (qa g 117), .ref (qa g 118), .ref (qa g 119), .ref (qa g 120), .ref (qa g 121), .ref (qa g 122), .int 0, .int 0, .int 0, .int 0, .ref (qa g 123), .ref (qa g 124), .null]) := by rw [hN26]; exact va_up_self _ _ _
  have e112_26 : N26 112 = _ := (by rw [hN26]; exact va_up_ne _ _ (by omega) : N26 112 = N25 112).trans e112_25
  have e113_26 : N26 113 = _ := (by rw [hN26]; exact va_up_ne _ _ (by omega) : N26 113 = N25 113).trans e113_25
  have e114_26 : N26 114 = _ := (by rw [hN26]; exact va_up_ne _ _ (by omega) : N26 114 = N25 114).trans e114_25
  have e115_26 : N26 115 = _ := (by rw [hN26]; exact va_up_ne _ _ (by omega) : N26 115 = N25 115).trans e115_25
  have e116_26 : N26 116 = _ := (by rw [hN26]; exact va_up_ne _ _ (by omega) : N26 116 = N25 116).trans e116_25
  have e117_26 : N26 117 = _ := (by rw [hN26]; exact va_up_ne _ _ (by omega) : N26 117 = N25 117).trans e117_25
  have e118_26 : N26 118 = _ := (by rw [hN26]; exact va_up_ne _ _ (by omega) : N26 118 = N25 118).trans e118_25
  have e119_26 : N26 119 = _ := (by rw [hN26]; exact va_up_ne _ _ (by omega) : N26 119 = N25 119).trans e119_25
  have e120_26 : N26 120 = _ := (by rw [hN26]; exact va_up_ne _ _ (by omega) : N26 120 = N25 120).trans e120_25
  have e121_26 : N26 121 = _ := (by rw [hN26]; exact va_up_ne _ _ (by omega) : N26 121 = N25 121).trans e121_25
  have e122_26 : N26 122 = _ := (by rw [hN26]; exact va_up_ne _ _ (by omega) : N26 122 = N25 122).trans e122_25
  have e123_26 : N26 123 = _ := (by rw [hN26]; exact va_up_ne _ _ (by omega) : N26 123 = N25 123).trans e123_25
  have e124_26 : N26 124 = _ := (by rw [hN26]; exact va_up_ne _ _ (by omega) : N26 124 = N25 124).trans e124_25
  have low_26 : ∀ q, q < 111 → N26 q = qmem g S0c q := fun q hq => (by rw [hN26]; exact va_up_ne _ _ (by omega) : N26 q = N25 q).trans (low_25 q hq)
  refine q_aload_n C 0 dX8_init_110 rfl rfl ?_
  refine q_bipush (v := 9) C dX8_init_111 (by decide) ?_
  refine q_newa_z (n9 := 9) C ac_boolean (by decide) (by decide) (by decide) ⟨Nat.le_of_ble_eq_true rfl, Nat.le_of_ble_eq_true rfl⟩ dX8_init_113 ?_
  show qR g 126 (qZ g 126) 1 p l e rmX8_init s m args below meth c 14 1891 (MQ below (qQv g 126 (qZ g 126) (qmem g S2)) args s 14 1891 (qA g)) (va_up N26 125 (.inl (g.2.2.1 1, 9, .inl fun _ => 0))) 115 [(0, .ref (qa g 111))] (.ref (qa g 125) :: [.ref (qa g 111)])
  obtain ⟨N27, hN27⟩ : ∃ z, z = va_up N26 125 (.inl (g.2.2.1 1, 9, .inl fun _ => 0)) := ⟨_, rfl⟩
  refine q_name hN27 ?_
  have e111_27 : N27 111 = _ := (by rw [hN27]; exact va_up_ne _ _ (by omega) : N27 111 = N26 111).trans e111_26
  have e112_27 : N27 112 = _ := (by rw [hN27]; exact va_up_ne _ _ (by omega) : N27 112 = N26 112).trans e112_26
  have e113_27 : N27 113 = _ := (by rw [hN27]; exact va_up_ne _ _ (by omega) : N27 113 = N26 113).trans e113_26
  have e114_27 : N27 114 = _ := (by rw [hN27]; exact va_up_ne _ _ (by omega) : N27 114 = N26 114).trans e114_26
  have e115_27 : N27 115 = _ := (by rw [hN27]; exact va_up_ne _ _ (by omega) : N27 115 = N26 115).trans e115_26
  have e116_27 : N27 116 = _ := (by rw [hN27]; exact va_up_ne _ _ (by omega) : N27 116 = N26 116).trans e116_26
  have e117_27 : N27 117 = _ := (by rw [hN27]; exact va_up_ne _ _ (by omega) : N27 117 = N26 117).trans e117_26
  have e118_27 : N27 118 = _ := (by rw [hN27]; exact va_up_ne _ _ (by omega) : N27 118 = N26 118).trans e118_26
  have e119_27 : N27 119 = _ := (by rw [hN27]; exact va_up_ne _ _ (by omega) : N27 119 = N26 119).trans e119_26
  have e120_27 : N27 120 = _ := (by rw [hN27]; exact va_up_ne _ _ (by omega) : N27 120 = N26 120).trans e120_26
  have e121_27 : N27 121 = _ := (by rw [hN27]; exact va_up_ne _ _ (by omega) : N27 121 = N26 121).trans e121_26
  have e122_27 : N27 122 = _ := (by rw [hN27]; exact va_up_ne _ _ (by omega) : N27 122 = N26 122).trans e122_26
  have e123_27 : N27 123 = _ := (by rw [hN27]; exact va_up_ne _ _ (by omega) : N27 123 = N26 123).trans e123_26
  have e124_27 : N27 124 = _ := (by rw [hN27]; exact va_up_ne _ _ (by omega) : N27 124 = N26 124).trans e124_26
  have e125_27 : N27 125 = .inl (g.2.2.1 1, 9, .inl fun _ => 0) := by rw [hN27]; exact va_up_self _ _ _
  have low_27 : ∀ q, q < 111 → N27 q = qmem g S0c q := fun q hq => (by rw [hN27]; exact va_up_ne _ _ (by omega) : N27 q = N26 q).trans (low_26 q hq)
  refine q_putF (o := 111) (ci := 8) (k := 21) (fs := [.int 0, .ref (qa g 112), .int 0, .int 0, .ref (qa g 113), .ref (qa g 114), .ref (qa g 115), .ref (qa g 116), .int 0, .ref (qa g 117), .ref (qa g 118), .ref (qa g 119), .ref (qa g 120), .ref (qa g 121), .ref (qa g 122), .int 0, .int 0, .int 0, .int 0, .ref (qa g 123), .ref (qa g 124), .null]) (v := .ref (qa g 125)) C (by omega) e111_27 (rfl : vwCl[8]? = some (RX8, TX8, 22)) (Nat.le_of_ble_eq_true rfl) (qwi 954 (by decide +kernel) (by decide +kernel)) (by decide +kernel) hin rfl (tyX8_ok 21 (Nat.le_of_ble_eq_true rfl)) rfl rfl (Nat.le_of_ble_eq_true rfl) dX8_init_115 ?_
  show qR g 126 (qZ g 126) 1 p l e rmX8_init s m args below meth c 14 1891 (MQ below (qQv g 126 (qZ g 126) (qmem g S2)) args s 14 1891 (qA g)) (va_up N27 111 (.inr (8, [.int 0,.ref (qa g 112),.int 0,.int 0,.ref (qa g 113),.ref (qa g 114),.ref (qa g 115),.ref (qa g 116),.int 0,.ref (qa g 117),.ref (qa g 118),.ref (qa g 119),.ref (qa g 120),.ref (qa g 121),.ref (qa g 122),.int 0,.int 0,.int 0,.int 0,.ref (qa g 123),.ref (qa g 124),.ref (qa g 125)]))) 118 [(0, .ref (qa g 111))] []
  obtain ⟨N28, hN28⟩ : ∃ z, z = va_up N27 111 (.inr (8, [.int 0, .ref (qa g 112), .int 0, .int 0, .ref (qa g 113), .ref (qa g 114), .ref (qa g 115), .ref (qa g 116), .int 0, .ref (qa g 117), .ref (qa g 118), .ref (qa g 119), .ref (qa g 120), .ref (qa g 121), .ref (qa g 122), .int 0, .int 0, .int 0, .int 0, .ref (qa g 123), .ref (qa g 124), .ref (qa g 125)])) := ⟨_, rfl⟩
  refine q_name hN28 ?_
  have e111_28 : N28 111 = .inr (8, [.int 0, .ref (qa g 112), .int 0, .int 0, .ref (qa g 113), .ref (qa g 114), .ref (qa g 115), .ref (qa g 116), .int 0, .ref (qa g 117), .ref (qa g 118), .ref (qa g 119), .ref (qa g 120), .ref (qa g 121), .ref (qa g 122), .int 0, .int 0, .int 0, .int 0, .ref (qa g 123), .ref (qa g 124), .ref (qa g 125)]) := by rw [hN28]; exact va_up_self _ _ _
  have e112_28 : N28 112 = _ := (by rw [hN28]; exact va_up_ne _ _ (by omega) : N28 112 = N27 112).trans e112_27
  have e113_28 : N28 113 = _ := (by rw [hN28]; exact va_up_ne _ _ (by omega) : N28 113 = N27 113).trans e113_27
  have e114_28 : N28 114 = _ := (by rw [hN28]; exact va_up_ne _ _ (by omega) : N28 114 = N27 114).trans e114_27
  have e115_28 : N28 115 = _ := (by rw [hN28]; exact va_up_ne _ _ (by omega) : N28 115 = N27 115).trans e115_27
  have e116_28 : N28 116 = _ := (by rw [hN28]; exact va_up_ne _ _ (by omega) : N28 116 = N27 116).trans e116_27
  have e117_28 : N28 117 = _ := (by rw [hN28]; exact va_up_ne _ _ (by omega) : N28 117 = N27 117).trans e117_27
  have e118_28 : N28 118 = _ := (by rw [hN28]; exact va_up_ne _ _ (by omega) : N28 118 = N27 118).trans e118_27
  have e119_28 : N28 119 = _ := (by rw [hN28]; exact va_up_ne _ _ (by omega) : N28 119 = N27 119).trans e119_27
  have e120_28 : N28 120 = _ := (by rw [hN28]; exact va_up_ne _ _ (by omega) : N28 120 = N27 120).trans e120_27
  have e121_28 : N28 121 = _ := (by rw [hN28]; exact va_up_ne _ _ (by omega) : N28 121 = N27 121).trans e121_27
  have e122_28 : N28 122 = _ := (by rw [hN28]; exact va_up_ne _ _ (by omega) : N28 122 = N27 122).trans e122_27
  have e123_28 : N28 123 = _ := (by rw [hN28]; exact va_up_ne _ _ (by omega) : N28 123 = N27 123).trans e123_27
  have e124_28 : N28 124 = _ := (by rw [hN28]; exact va_up_ne _ _ (by omega) : N28 124 = N27 124).trans e124_27
  have e125_28 : N28 125 = _ := (by rw [hN28]; exact va_up_ne _ _ (by omega) : N28 125 = N27 125).trans e125_27
  have low_28 : ∀ q, q < 111 → N28 q = qmem g S0c q := fun q hq => (by rw [hN28]; exact va_up_ne _ _ (by omega) : N28 q = N27 q).trans (low_27 q hq)
  refine q_same (M1 := qmem g S0c) (fun q hq => ?_) (WX8_tail C hr n S0c h)
  by_cases h9 : q < 111
  · exact low_28 q h9
  · rcases (show q = 111 ∨ q = 112 ∨ q = 113 ∨ q = 114 ∨ q = 115 ∨ q = 116 ∨ q = 117 ∨ q = 118 ∨ q = 119 ∨ q = 120 ∨ q = 121 ∨ q = 122 ∨ q = 123 ∨ q = 124 ∨ q = 125 by omega) with h8 | h8 | h8 | h8 | h8 | h8 | h8 | h8 | h8 | h8 | h8 | h8 | h8 | h8 | h8
    · rw [h8, e111_28, qmem_o kd_111 (by decide)]; rfl
    · rw [h8, e112_28]; exact qz_10 kd_112
    · rw [h8, e113_28]; exact qz_10 kd_113
    · rw [h8, e114_28]; exact qz_10 kd_114
    · rw [h8, e115_28]; exact qz_10 kd_115
    · rw [h8, e116_28]; exact qz_10 kd_116
    · rw [h8, e117_28]; exact qz_10 kd_117
    · rw [h8, e118_28]; exact qz_11 kd_118
    · rw [h8, e119_28]; exact qz_10 kd_119
    · rw [h8, e120_28]; exact qz_10 kd_120
    · rw [h8, e121_28]; exact qz_10 kd_121
    · rw [h8, e122_28]; exact qz_10 kd_122
    · rw [h8, e123_28]; exact qz_10 kd_123
    · rw [h8, e124_28]; exact qz_10 kd_124
    · rw [h8, e125_28]; exact qz_11 kd_125
end
