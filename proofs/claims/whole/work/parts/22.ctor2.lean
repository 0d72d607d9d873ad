theorem arrV_congr {cI : ClassId} {N : Nat} {f f' : Nat → Value} (h : ∀ j, j < N → f j = f' j) : arrV cI N f = arrV cI N f' := by
  unfold arrV
  congr 1
  congr 1
  funext j
  exact h j.val j.isLt
theorem qW_to {g : qG} {N : Nat} {M M1 : Nat → va_E} {H : Heap} (h : ∀ q, q < N → va_at g.1 vwCl (qa g q, M q) H → va_at g.1 vwCl (qa g q, M1 q) H) (hP : va_P g.1 vwCl (qW g N M) H) : va_P g.1 vwCl (qW g N M1) H := by
  intro k q hk
  obtain ⟨hk9, rfl⟩ := qW_out hk
  exact h k hk9 (hP k _ (qW_at hk9))
theorem q_kret2 {g : qG} {N : Nat} {hz : Nat → Prop} {nL : Nat} {p : Program} {l : Launch} {e : Env} {R : Room} {s : State} {m : MethodId} {args : Array Value} {below : List Frame} {meth : Method} {c : Code} {cells slots : Nat} {M : Nat → va_E} {pc : Nat} {lv : List (Nat × Value)} {cc : ByteArray} {own : String} (C : qC g cc own nL p s m meth c) {mc ms : Nat} {M1 : Nat → va_E} (hr : meth.sig.returnType = none) (hM : ∀ q, q < N → ∀ H, va_at g.1 vwCl (qa g q, M q) H → va_at g.1 vwCl (qa g q, M1 q) H) (h1 : cells ≤ mc) (h2 : slots ≤ ms) (hdg : decode cc pc = .ok (.return_, 1)) : qR g N hz nL p l e R s m args below meth c cells slots (MQ below (qQv g N hz M1) args s mc ms (qA g)) M pc lv [] := by
  intro H locs ls hP hh hS hl
  exact q_vret C hr h1 h2 hdg H locs ls (qW_to (fun q hq => hM q hq H) hP) hh hS hl
section
variable {l : Launch} {g : qG} {p : Program} {e : Env} {s : State} {m : MethodId} {args : Array Value} {below : List Frame} {meth : Method} {c : Code}
abbrev rmX0_init : Room := { frames := 2, cells := 71, slots := 1302, locals := 80 }
def hm0 (g : qG) (M : Nat → va_E) (i : Nat) : Nat → va_E := fun q => if q < 18 then M q else if q = 18 then .inr (0, [.ref (qa g 19), .int 0, .int 0]) else if q = 19 then .inl (g.2.2.1 4, 14, .inr (.inr (.inr (.inr fun j => if j < i then some (qa g (20 + 5 * j)) else none)))) else qmem g S0c q
set_option maxRecDepth 100000 in
set_option maxHeartbeats 4000000 in
theorem hl0 {M : Nat → va_E} (C : qC g cX0_init RX0 2 p s m meth c) (hr : meth.sig.returnType = none) : ∀ (k i : Nat), i + k = 14 → qR g (20 + 5 * i) (qZ g (20 + 5 * i)) 2 p l e rmX0_init s m args below meth c (1 + 5 * i) (14 + 92 * i) (MQ below (qQv g 90 (qZ g 90) (qmix g 18 M)) args s 71 1302 (qA g)) (hm0 g M i) 25 [(0, .ref (qa g 18)), (1, .int (nI i))] [] := by
  intro k
  induction k with
  | zero =>
    intro i hi
    have hi' : i = 14 := by omega
    subst hi'
    refine q_iload_n C 1 dX0_init_25 rfl rfl ?_
    refine q_bipush (v := 14) C dX0_init_26 (by decide) ?_
    refine q_icmp_ge (tgt := 50) (α := Bool) (A := true) (B := false) (r := true) C (if_pos (by decide)) dX0_init_28 (by decide) (fun _ => ?_) (fun h => nomatch h)
    refine q_kret2 C hr (fun q hq H9 => ?_) (by decide) (by decide) dX0_init_50
    unfold hm0
    by_cases h : q < 18
    · rw [if_pos h, qmix_lo h]; exact id
    · rw [if_neg h, qmix_hi (by omega)]
      by_cases h1 : q = 18
      · rw [if_pos h1, h1, qmem_o kd_18 (by decide)]
        simp [qfs, qtm, S0c_z kd_18 (by decide)]
      · rw [if_neg h1]
        by_cases h2 : q = 19
        · rw [if_pos h2, h2, qmem_14 kd_19]
          intro h9
          show H9[qa g 19]? = some (vp_cell _ _)
          refine Eq.trans h9 (congrArg some ?_)
          show vp_cell _ _ = _
          rw [vp_cell_q, vp_cell_q]
          exact arrV_congr (fun j hj => by rw [if_pos hj])
        · rw [if_neg h2]; exact id
  | succ k ih =>
    intro i hi
    refine q_iload_n C 1 dX0_init_25 rfl rfl ?_
    refine q_bipush (v := 14) C dX0_init_26 (by decide) ?_
    refine q_icmp_ge (tgt := 50) (α := Bool) (A := true) (B := false) (r := false) C (if_neg (by have := nI_ge (a := i) (b := 14) (by omega) (by omega); exact this)) dX0_init_28 (by decide) (fun h => nomatch h) (fun _ => ?_)
    refine q_aload_n C 0 dX0_init_31 rfl rfl ?_
    have e0 : hm0 g M i 18 = .inr (0, [.ref (qa g 19), .int 0, .int 0]) := by simp [hm0]
    refine q_get (o := 18) (ci := 0) (k := 0) (fs := [.ref (qa g 19), .int 0, .int 0]) (v := .ref (qa g 19)) C (by omega) e0 (rfl : vwCl[0]? = some (RX0, TX0, 3)) (Nat.le_of_ble_eq_true rfl) rfl (qwi 186 (by decide +kernel) (by decide +kernel)) dX0_init_32 ?_
    refine q_iload_n C 1 dX0_init_35 rfl rfl ?_
    refine q_new (ci := 5) (q := (RX5, TX5, 8)) (fs := [.int 0, .int 0, .int 0, .int 0, .null, .null, .null, .null]) C rfl clk0_9 ins_5 ini_5 tyX5 tyX5_ok (by decide +kernel) ⟨by show 1 + 5 * i + 1 ≤ 71; omega, by show 14 + 92 * i + 8 ≤ 1302; omega⟩ dX0_init_36 ?_
    refine q_dup C dX0_init_39 rfl ?_
    have e1 : va_up (hm0 g M i) (20 + 5 * i) (.inr (5, [.int 0, .int 0, .int 0, .int 0, .null, .null, .null, .null])) (20 + 5 * i) = .inr (5, [.int 0, .int 0, .int 0, .int 0, .null, .null, .null, .null]) := va_up_self _ _ _
    refine q_callINv C (kX5_init (20 + 5 * i) (tyT_hs0 i (by omega)) _ e1) lm0_24 rfl (rest := [.ref (qa g (20 + 5 * i)), .int (nI i), .ref (qa g 19)]) rfl (Nat.le_of_ble_eq_true rfl) dX0_init_40 ⟨rfl, rfl, Nat.le_of_ble_eq_true rfl, Nat.le_of_ble_eq_true rfl, by show 1 + 5 * i + 1 + 4 ≤ 71; omega, by show 14 + 92 * i + 8 + 84 ≤ 1302; omega⟩ ?_
    have e2 : qmix g (20 + 5 * i) (va_up (hm0 g M i) (20 + 5 * i) (.inr (5, [.int 0, .int 0, .int 0, .int 0, .null, .null, .null, .null]))) 19 = .inl (g.2.2.1 4, 14, .inr (.inr (.inr (.inr fun j => if j < i then some (qa g (20 + 5 * j)) else none)))) := by
      rw [qmix_lo (by omega), va_up_ne _ _ (by omega)]
      simp [hm0]
    have e3 : qmix g (20 + 5 * i) (va_up (hm0 g M i) (20 + 5 * i) (.inr (5, [.int 0, .int 0, .int 0, .int 0, .null, .null, .null, .null]))) (20 + 5 * i) = .inr (5, qfs g (S0c (20 + 5 * i)) (20 + 5 * i) 0 (qtm 5)) := by
      rw [qmix_hi (Nat.le_refl _), qmem_o (tyT_hs0 i (by omega)).k0 (by decide)]
    refine q_aast (q := (RX5, TX5, 8)) C (by omega) e2 (by omega) e3 rfl rfl (by simp only [qin, Bool.and_eq_true, decide_eq_true_eq]; exact ⟨nI_pos' (by omega), by rw [nI_clamp (by omega)]; omega⟩) dX0_init_43 ?_
    refine q_same (M1 := hm0 g M (i + 1)) (fun q hq => ?_) ?_
    · rw [nI_clamp (by omega)]
      by_cases h2 : q = 19
      · rw [h2, va_up_self]
        simp only [hm0, if_neg (show ¬ 19 < 18 by omega), if_neg (show ¬ 19 = 18 by omega), if_true]
        congr 7
        funext j
        simp only [va_up]
        by_cases hj : j = i
        · subst hj; simp
        · rw [if_neg hj]
          by_cases hj2 : j < i
          · rw [if_pos hj2, if_pos (by omega)]
          · rw [if_neg hj2, if_neg (by omega)]
      · rw [va_up_ne _ _ h2]
        by_cases h3 : q < 20 + 5 * i
        · rw [qmix_lo h3, va_up_ne _ _ (by omega)]
          unfold hm0
          rw [if_neg h2, if_neg h2]
        · rw [qmix_hi (by omega)]
          unfold hm0
          rw [if_neg (by omega), if_neg (by omega), if_neg (by omega)]
    refine q_iinc C 1 (v := nI i + 1) (lv' := [(1, .int (nI i + 1)), (0, .ref (qa g 18))]) dX0_init_44 rfl rfl (by decide) rfl ?_
    refine q_norm [1, 0] rfl ?_
    refine q_goto (tgt := 25) C dX0_init_47 (by decide) ?_
    rw [nI_1]
    have e4 : 20 + 5 * i + 1 + 4 = 20 + 5 * (i + 1) := by omega
    have e5 : 1 + 5 * i + 1 + 4 = 1 + 5 * (i + 1) := by omega
    have e6 : 14 + 92 * i + 8 + 84 = 14 + 92 * (i + 1) := by omega
    show qR g (20 + 5 * i + 5) (qZ g (20 + 5 * i + 5)) 2 p l e rmX0_init s m args below meth c (1 + 5 * i + 1 + 4) (14 + 92 * i + 8 + 84) (MQ below (qQv g 90 (qZ g 90) (qmix g 18 M)) args s 71 1302 (qA g)) (hm0 g M (i + 1)) 25 [(0, .ref (qa g 18)), (1, .int (nI (i + 1)))] []
    rw [e5, e6, show 20 + 5 * i + 5 = 20 + 5 * (i + 1) by omega]
    exact ih (i + 1) (by omega)
set_option maxRecDepth 100000 in
set_option maxHeartbeats 4000000 in
theorem kX0_init {l : Launch} {g : qG} (M : Nat → va_E) (e0 : M 18 = .inr (0, [.null, .int 0, .int 0])) : Met l yX0_init [.code yX0_init cX0_init 2 none] rmX0_init (qPc g 19 (qZ g 19) M [.ref (qa g 18)]) (qQv g 90 (qZ g 90) (qmix g 18 M)) 71 1302 (qA g) := by
  refine q_met (by decide) (Nat.le_of_ble_eq_true rfl) (fun p e s m args below meth c C hr hnm => ?_)
  have hin : meth.name = "<init>" := hnm
  have C : qC g cX0_init RX0 2 p s m meth c := C
  obtain ⟨M0, hM0⟩ : ∃ z, z = M := ⟨_, rfl⟩
  rw [← hM0] at e0
  have low0 : ∀ q, q < 18 → M0 q = M q := fun q _ => by rw [hM0]
  refine q_name hM0 ?_
  show qR g 19 (qZ g 19) 2 p l e rmX0_init s m args below meth c 0 0 (MQ below (qQv g 90 (qZ g 90) (qmix g 18 M)) args s 71 1302 (qA g)) M0 0 [(0, .ref (qa g 18))] []
  refine q_aload_n C 0 dX0_init_0 rfl rfl ?_
  refine q_oinit C (qwi 182 (by decide +kernel) (by decide +kernel)) oiI oiC (Nat.le_of_ble_eq_true rfl) (Nat.le_of_ble_eq_true rfl) dX0_init_1 ?_
  refine q_aload_n C 0 dX0_init_4 rfl rfl ?_
  refine q_bipush (v := 14) C dX0_init_5 (by decide) ?_
  refine q_newq (n9 := 14) C clk0_9 (by decide) (by decide) (by decide) ⟨Nat.le_of_ble_eq_true rfl, Nat.le_of_ble_eq_true rfl⟩ dX0_init_7 ?_
  show qR g 20 (qZ g 20) 2 p l e rmX0_init s m args below meth c 1 14 (MQ below (qQv g 90 (qZ g 90) (qmix g 18 M)) args s 71 1302 (qA g)) (va_up M0 19 (.inl (g.2.2.1 4, 14, .inr (.inr (.inr (.inr fun _ => none)))))) 10 [(0, .ref (qa g 18))] (.ref (qa g 19) :: [.ref (qa g 18)])
  obtain ⟨N1, hN1⟩ : ∃ z, z = va_up M0 19 (.inl (g.2.2.1 4, 14, .inr (.inr (.inr (.inr fun _ => none))))) := ⟨_, rfl⟩
  refine q_name hN1 ?_
  have e18_1 : N1 18 = _ := (by rw [hN1]; exact va_up_ne _ _ (by omega) : N1 18 = M0 18).trans e0
  have e19_1 : N1 19 = .inl (g.2.2.1 4, 14, .inr (.inr (.inr (.inr fun _ => none)))) := by rw [hN1]; exact va_up_self _ _ _
  have low_1 : ∀ q, q < 18 → N1 q = M q := fun q hq => (by rw [hN1]; exact va_up_ne _ _ (by omega) : N1 q = M0 q).trans (low0 q hq)
  refine q_putF (o := 18) (ci := 0) (k := 0) (fs := [.null, .int 0, .int 0]) (v := .ref (qa g 19)) C (by omega) e18_1 (rfl : vwCl[0]? = some (RX0, TX0, 3)) (Nat.le_of_ble_eq_true rfl) (qwi 186 (by decide +kernel) (by decide +kernel)) (by decide +kernel) hin rfl (tyX0_ok 0 (Nat.le_of_ble_eq_true rfl)) rfl rfl (Nat.le_of_ble_eq_true rfl) dX0_init_10 ?_
  show qR g 20 (qZ g 20) 2 p l e rmX0_init s m args below meth c 1 14 (MQ below (qQv g 90 (qZ g 90) (qmix g 18 M)) args s 71 1302 (qA g)) (va_up N1 18 (.inr (0, [.ref (qa g 19),.int 0,.int 0]))) 13 [(0, .ref (qa g 18))] []
  obtain ⟨N2, hN2⟩ : ∃ z, z = va_up N1 18 (.inr (0, [.ref (qa g 19), .int 0, .int 0])) := ⟨_, rfl⟩
  refine q_name hN2 ?_
  have e18_2 : N2 18 = .inr (0, [.ref (qa g 19), .int 0, .int 0]) := by rw [hN2]; exact va_up_self _ _ _
  have e19_2 : N2 19 = _ := (by rw [hN2]; exact va_up_ne _ _ (by omega) : N2 19 = N1 19).trans e19_1
  have low_2 : ∀ q, q < 18 → N2 q = M q := fun q hq => (by rw [hN2]; exact va_up_ne _ _ (by omega) : N2 q = N1 q).trans (low_1 q hq)
  refine q_aload_n C 0 dX0_init_13 rfl rfl ?_
  refine q_iconst (v := 0) C dX0_init_14 (by decide) ?_
  refine q_put (o := 18) (ci := 0) (k := 1) (fs := [.ref (qa g 19), .int 0, .int 0]) (v := .int 0) C (by omega) e18_2 (rfl : vwCl[0]? = some (RX0, TX0, 3)) (Nat.le_of_ble_eq_true rfl) (qwi 187 (by decide +kernel) (by decide +kernel)) (by decide +kernel) (tyX0_ok 1 (Nat.le_of_ble_eq_true rfl)) rfl rfl (Nat.le_of_ble_eq_true rfl) dX0_init_15 ?_
  show qR g 20 (qZ g 20) 2 p l e rmX0_init s m args below meth c 1 14 (MQ below (qQv g 90 (qZ g 90) (qmix g 18 M)) args s 71 1302 (qA g)) (va_up N2 18 (.inr (0, [.ref (qa g 19),.int 0,.int 0]))) 18 [(0, .ref (qa g 18))] []
  obtain ⟨N3, hN3⟩ : ∃ z, z = va_up N2 18 (.inr (0, [.ref (qa g 19), .int 0, .int 0])) := ⟨_, rfl⟩
  refine q_name hN3 ?_
  have e18_3 : N3 18 = .inr (0, [.ref (qa g 19), .int 0, .int 0]) := by rw [hN3]; exact va_up_self _ _ _
  have e19_3 : N3 19 = _ := (by rw [hN3]; exact va_up_ne _ _ (by omega) : N3 19 = N2 19).trans e19_2
  have low_3 : ∀ q, q < 18 → N3 q = M q := fun q hq => (by rw [hN3]; exact va_up_ne _ _ (by omega) : N3 q = N2 q).trans (low_2 q hq)
  refine q_aload_n C 0 dX0_init_18 rfl rfl ?_
  refine q_iconst (v := 0) C dX0_init_19 (by decide) ?_
  refine q_put (o := 18) (ci := 0) (k := 2) (fs := [.ref (qa g 19), .int 0, .int 0]) (v := .int 0) C (by omega) e18_3 (rfl : vwCl[0]? = some (RX0, TX0, 3)) (Nat.le_of_ble_eq_true rfl) (qwi 188 (by decide +kernel) (by decide +kernel)) (by decide +kernel) (tyX0_ok 2 (Nat.le_of_ble_eq_true rfl)) rfl rfl (Nat.le_of_ble_eq_true rfl) dX0_init_20 ?_
  show qR g 20 (qZ g 20) 2 p l e rmX0_init s m args below meth c 1 14 (MQ below (qQv g 90 (qZ g 90) (qmix g 18 M)) args s 71 1302 (qA g)) (va_up N3 18 (.inr (0, [.ref (qa g 19),.int 0,.int 0]))) 23 [(0, .ref (qa g 18))] []
  obtain ⟨N4, hN4⟩ : ∃ z, z = va_up N3 18 (.inr (0, [.ref (qa g 19), .int 0, .int 0])) := ⟨_, rfl⟩
  refine q_name hN4 ?_
  have e18_4 : N4 18 = .inr (0, [.ref (qa g 19), .int 0, .int 0]) := by rw [hN4]; exact va_up_self _ _ _
  have e19_4 : N4 19 = _ := (by rw [hN4]; exact va_up_ne _ _ (by omega) : N4 19 = N3 19).trans e19_3
  have low_4 : ∀ q, q < 18 → N4 q = M q := fun q hq => (by rw [hN4]; exact va_up_ne _ _ (by omega) : N4 q = N3 q).trans (low_3 q hq)
  refine q_iconst (v := 0) C dX0_init_23 (by decide) ?_
  refine q_istore_n C (lv' := [(1, .int 0), (0, .ref (qa g 18))]) dX0_init_24 rfl (by decide) rfl ?_
  refine q_norm [1, 0] rfl ?_
  refine q_same (M1 := hm0 g M 0) (fun q hq => ?_) (hl0 C hr 14 0 (by omega))
  unfold hm0
  by_cases h : q < 18
  · rw [if_pos h, low_4 q h]
  · rw [if_neg h]
    by_cases h1 : q = 18
    · rw [if_pos h1, h1, e18_4]
    · rw [if_neg h1]
      by_cases h2 : q = 19
      · rw [if_pos h2, h2, e19_4]
        simp
      · omega
abbrev rmX3_init : Room := { frames := 2, cells := 12, slots := 188, locals := 80 }
def hm3 (g : qG) (M : Nat → va_E) (i : Nat) : Nat → va_E := fun q => if q < 90 then M q else if q = 90 then .inr (3, [.ref (qa g 91), .ref (qa g 92)]) else if q = 91 then .inl (g.2.2.1 4, 2, .inr (.inr (.inr (.inr fun j => if j < i then some (qa g (93 + 5 * j)) else none)))) else qmem g S0c q
set_option maxRecDepth 100000 in
set_option maxHeartbeats 4000000 in
theorem hl3 {M : Nat → va_E} (C : qC g cX3_init RX3 2 p s m meth c) (hr : meth.sig.returnType = none) : ∀ (k i : Nat), i + k = 2 → qR g (93 + 5 * i) (qZ g (93 + 5 * i)) 2 p l e rmX3_init s m args below meth c (2 + 5 * i) (4 + 92 * i) (MQ below (qQv g 103 (qZ g 103) (qmix g 90 M)) args s 12 188 (qA g)) (hm3 g M i) 21 [(0, .ref (qa g 90)), (1, .int (nI i))] [] := by
  intro k
  induction k with
  | zero =>
    intro i hi
    have hi' : i = 2 := by omega
    subst hi'
    refine q_iload_n C 1 dX3_init_21 rfl rfl ?_
    refine q_iconst (v := 2) C dX3_init_22 (by decide) ?_
    refine q_icmp_ge (tgt := 45) (α := Bool) (A := true) (B := false) (r := true) C (if_pos (by decide)) dX3_init_23 (by decide) (fun _ => ?_) (fun h => nomatch h)
    refine q_kret2 C hr (fun q hq H9 => ?_) (by decide) (by decide) dX3_init_45
    unfold hm3
    by_cases h : q < 90
    · rw [if_pos h, qmix_lo h]; exact id
    · rw [if_neg h, qmix_hi (by omega)]
      by_cases h1 : q = 90
      · rw [if_pos h1, h1, qmem_o kd_90 (by decide)]
        simp [qfs, qtm, S0c_z kd_90 (by decide)]
      · rw [if_neg h1]
        by_cases h2 : q = 91
        · rw [if_pos h2, h2, qmem_15 kd_91]
          intro h9
          show H9[qa g 91]? = some (vp_cell _ _)
          refine Eq.trans h9 (congrArg some ?_)
          show vp_cell _ _ = _
          rw [vp_cell_q, vp_cell_q]
          exact arrV_congr (fun j hj => by rw [if_pos hj])
        · rw [if_neg h2]; exact id
  | succ k ih =>
    intro i hi
    refine q_iload_n C 1 dX3_init_21 rfl rfl ?_
    refine q_iconst (v := 2) C dX3_init_22 (by decide) ?_
    refine q_icmp_ge (tgt := 45) (α := Bool) (A := true) (B := false) (r := false) C (if_neg (by have := nI_ge (a := i) (b := 2) (by omega) (by omega); exact this)) dX3_init_23 (by decide) (fun h => nomatch h) (fun _ => ?_)
    refine q_aload_n C 0 dX3_init_26 rfl rfl ?_
    have e0 : hm3 g M i 90 = .inr (3, [.ref (qa g 91), .ref (qa g 92)]) := by simp [hm3]
    refine q_get (o := 90) (ci := 3) (k := 0) (fs := [.ref (qa g 91), .ref (qa g 92)]) (v := .ref (qa g 91)) C (by omega) e0 (rfl : vwCl[3]? = some (RX3, TX3, 2)) (Nat.le_of_ble_eq_true rfl) rfl (qwi 205 (by decide +kernel) (by decide +kernel)) dX3_init_27 ?_
    refine q_iload_n C 1 dX3_init_30 rfl rfl ?_
    refine q_new (ci := 5) (q := (RX5, TX5, 8)) (fs := [.int 0, .int 0, .int 0, .int 0, .null, .null, .null, .null]) C rfl clk3_9 ins_5 ini_5 tyX5 tyX5_ok (by decide +kernel) ⟨by show 2 + 5 * i + 1 ≤ 12; omega, by show 4 + 92 * i + 8 ≤ 188; omega⟩ dX3_init_31 ?_
    refine q_dup C dX3_init_34 rfl ?_
    have e1 : va_up (hm3 g M i) (93 + 5 * i) (.inr (5, [.int 0, .int 0, .int 0, .int 0, .null, .null, .null, .null])) (93 + 5 * i) = .inr (5, [.int 0, .int 0, .int 0, .int 0, .null, .null, .null, .null]) := va_up_self _ _ _
    refine q_callINv C (kX5_init (93 + 5 * i) (tyT_ss0 i (by omega)) _ e1) lm3_21 rfl (rest := [.ref (qa g (93 + 5 * i)), .int (nI i), .ref (qa g 91)]) rfl (Nat.le_of_ble_eq_true rfl) dX3_init_35 ⟨rfl, rfl, Nat.le_of_ble_eq_true rfl, Nat.le_of_ble_eq_true rfl, by show 2 + 5 * i + 1 + 4 ≤ 12; omega, by show 4 + 92 * i + 8 + 84 ≤ 188; omega⟩ ?_
    have e2 : qmix g (93 + 5 * i) (va_up (hm3 g M i) (93 + 5 * i) (.inr (5, [.int 0, .int 0, .int 0, .int 0, .null, .null, .null, .null]))) 91 = .inl (g.2.2.1 4, 2, .inr (.inr (.inr (.inr fun j => if j < i then some (qa g (93 + 5 * j)) else none)))) := by
      rw [qmix_lo (by omega), va_up_ne _ _ (by omega)]
      simp [hm3]
    have e3 : qmix g (93 + 5 * i) (va_up (hm3 g M i) (93 + 5 * i) (.inr (5, [.int 0, .int 0, .int 0, .int 0, .null, .null, .null, .null]))) (93 + 5 * i) = .inr (5, qfs g (S0c (93 + 5 * i)) (93 + 5 * i) 0 (qtm 5)) := by
      rw [qmix_hi (Nat.le_refl _), qmem_o (tyT_ss0 i (by omega)).k0 (by decide)]
    refine q_aast (q := (RX5, TX5, 8)) C (by omega) e2 (by omega) e3 rfl rfl (by simp only [qin, Bool.and_eq_true, decide_eq_true_eq]; exact ⟨nI_pos' (by omega), by rw [nI_clamp (by omega)]; omega⟩) dX3_init_38 ?_
    refine q_same (M1 := hm3 g M (i + 1)) (fun q hq => ?_) ?_
    · rw [nI_clamp (by omega)]
      by_cases h2 : q = 91
      · rw [h2, va_up_self]
        simp only [hm3, if_neg (show ¬ 91 < 90 by omega), if_neg (show ¬ 91 = 90 by omega), if_true]
        congr 7
        funext j
        simp only [va_up]
        by_cases hj : j = i
        · subst hj; simp
        · rw [if_neg hj]
          by_cases hj2 : j < i
          · rw [if_pos hj2, if_pos (by omega)]
          · rw [if_neg hj2, if_neg (by omega)]
      · rw [va_up_ne _ _ h2]
        by_cases h3 : q < 93 + 5 * i
        · rw [qmix_lo h3, va_up_ne _ _ (by omega)]
          unfold hm3
          rw [if_neg h2, if_neg h2]
        · rw [qmix_hi (by omega)]
          unfold hm3
          rw [if_neg (by omega), if_neg (by omega), if_neg (by omega)]
    refine q_iinc C 1 (v := nI i + 1) (lv' := [(1, .int (nI i + 1)), (0, .ref (qa g 90))]) dX3_init_39 rfl rfl (by decide) rfl ?_
    refine q_norm [1, 0] rfl ?_
    refine q_goto (tgt := 21) C dX3_init_42 (by decide) ?_
    rw [nI_1]
    have e4 : 93 + 5 * i + 1 + 4 = 93 + 5 * (i + 1) := by omega
    have e5 : 2 + 5 * i + 1 + 4 = 2 + 5 * (i + 1) := by omega
    have e6 : 4 + 92 * i + 8 + 84 = 4 + 92 * (i + 1) := by omega
    show qR g (93 + 5 * i + 5) (qZ g (93 + 5 * i + 5)) 2 p l e rmX3_init s m args below meth c (2 + 5 * i + 1 + 4) (4 + 92 * i + 8 + 84) (MQ below (qQv g 103 (qZ g 103) (qmix g 90 M)) args s 12 188 (qA g)) (hm3 g M (i + 1)) 21 [(0, .ref (qa g 90)), (1, .int (nI (i + 1)))] []
    rw [e5, e6, show 93 + 5 * i + 5 = 93 + 5 * (i + 1) by omega]
    exact ih (i + 1) (by omega)
set_option maxRecDepth 100000 in
set_option maxHeartbeats 4000000 in
theorem kX3_init {l : Launch} {g : qG} (M : Nat → va_E) (e0 : M 90 = .inr (3, [.null, .null])) : Met l yX3_init [.code yX3_init cX3_init 2 none] rmX3_init (qPc g 91 (qZ g 91) M [.ref (qa g 90)]) (qQv g 103 (qZ g 103) (qmix g 90 M)) 12 188 (qA g) := by
  refine q_met (by decide) (Nat.le_of_ble_eq_true rfl) (fun p e s m args below meth c C hr hnm => ?_)
  have hin : meth.name = "<init>" := hnm
  have C : qC g cX3_init RX3 2 p s m meth c := C
  obtain ⟨M0, hM0⟩ : ∃ z, z = M := ⟨_, rfl⟩
  rw [← hM0] at e0
  have low0 : ∀ q, q < 90 → M0 q = M q := fun q _ => by rw [hM0]
  refine q_name hM0 ?_
  show qR g 91 (qZ g 91) 2 p l e rmX3_init s m args below meth c 0 0 (MQ below (qQv g 103 (qZ g 103) (qmix g 90 M)) args s 12 188 (qA g)) M0 0 [(0, .ref (qa g 90))] []
  refine q_aload_n C 0 dX3_init_0 rfl rfl ?_
  refine q_oinit C (qwi 202 (by decide +kernel) (by decide +kernel)) oiI oiC (Nat.le_of_ble_eq_true rfl) (Nat.le_of_ble_eq_true rfl) dX3_init_1 ?_
  refine q_aload_n C 0 dX3_init_4 rfl rfl ?_
  refine q_iconst (v := 2) C dX3_init_5 (by decide) ?_
  refine q_newq (n9 := 2) C clk3_9 (by decide) (by decide) (by decide) ⟨Nat.le_of_ble_eq_true rfl, Nat.le_of_ble_eq_true rfl⟩ dX3_init_6 ?_
  show qR g 92 (qZ g 92) 2 p l e rmX3_init s m args below meth c 1 2 (MQ below (qQv g 103 (qZ g 103) (qmix g 90 M)) args s 12 188 (qA g)) (va_up M0 91 (.inl (g.2.2.1 4, 2, .inr (.inr (.inr (.inr fun _ => none)))))) 9 [(0, .ref (qa g 90))] (.ref (qa g 91) :: [.ref (qa g 90)])
  obtain ⟨N1, hN1⟩ : ∃ z, z = va_up M0 91 (.inl (g.2.2.1 4, 2, .inr (.inr (.inr (.inr fun _ => none))))) := ⟨_, rfl⟩
  refine q_name hN1 ?_
  have e90_1 : N1 90 = _ := (by rw [hN1]; exact va_up_ne _ _ (by omega) : N1 90 = M0 90).trans e0
  have e91_1 : N1 91 = .inl (g.2.2.1 4, 2, .inr (.inr (.inr (.inr fun _ => none)))) := by rw [hN1]; exact va_up_self _ _ _
  have low_1 : ∀ q, q < 90 → N1 q = M q := fun q hq => (by rw [hN1]; exact va_up_ne _ _ (by omega) : N1 q = M0 q).trans (low0 q hq)
  refine q_putF (o := 90) (ci := 3) (k := 0) (fs := [.null, .null]) (v := .ref (qa g 91)) C (by omega) e90_1 (rfl : vwCl[3]? = some (RX3, TX3, 2)) (Nat.le_of_ble_eq_true rfl) (qwi 205 (by decide +kernel) (by decide +kernel)) (by decide +kernel) hin rfl (tyX3_ok 0 (Nat.le_of_ble_eq_true rfl)) rfl rfl (Nat.le_of_ble_eq_true rfl) dX3_init_9 ?_
  show qR g 92 (qZ g 92) 2 p l e rmX3_init s m args below meth c 1 2 (MQ below (qQv g 103 (qZ g 103) (qmix g 90 M)) args s 12 188 (qA g)) (va_up N1 90 (.inr (3, [.ref (qa g 91),.null]))) 12 [(0, .ref (qa g 90))] []
  obtain ⟨N2, hN2⟩ : ∃ z, z = va_up N1 90 (.inr (3, [.ref (qa g 91), .null])) := ⟨_, rfl⟩
  refine q_name hN2 ?_
  have e90_2 : N2 90 = .inr (3, [.ref (qa g 91), .null]) := by rw [hN2]; exact va_up_self _ _ _
  have e91_2 : N2 91 = _ := (by rw [hN2]; exact va_up_ne _ _ (by omega) : N2 91 = N1 91).trans e91_1
  have low_2 : ∀ q, q < 90 → N2 q = M q := fun q hq => (by rw [hN2]; exact va_up_ne _ _ (by omega) : N2 q = N1 q).trans (low_1 q hq)
  refine q_aload_n C 0 dX3_init_12 rfl rfl ?_
  refine q_iconst (v := 2) C dX3_init_13 (by decide) ?_
  refine q_newa_z (n9 := 2) C ac_boolean (by decide) (by decide) (by decide) ⟨Nat.le_of_ble_eq_true rfl, Nat.le_of_ble_eq_true rfl⟩ dX3_init_14 ?_
  show qR g 93 (qZ g 93) 2 p l e rmX3_init s m args below meth c 2 4 (MQ below (qQv g 103 (qZ g 103) (qmix g 90 M)) args s 12 188 (qA g)) (va_up N2 92 (.inl (g.2.2.1 1, 2, .inl fun _ => 0))) 16 [(0, .ref (qa g 90))] (.ref (qa g 92) :: [.ref (qa g 90)])
  obtain ⟨N3, hN3⟩ : ∃ z, z = va_up N2 92 (.inl (g.2.2.1 1, 2, .inl fun _ => 0)) := ⟨_, rfl⟩
  refine q_name hN3 ?_
  have e90_3 : N3 90 = _ := (by rw [hN3]; exact va_up_ne _ _ (by omega) : N3 90 = N2 90).trans e90_2
  have e91_3 : N3 91 = _ := (by rw [hN3]; exact va_up_ne _ _ (by omega) : N3 91 = N2 91).trans e91_2
  have e92_3 : N3 92 = .inl (g.2.2.1 1, 2, .inl fun _ => 0) := by rw [hN3]; exact va_up_self _ _ _
  have low_3 : ∀ q, q < 90 → N3 q = M q := fun q hq => (by rw [hN3]; exact va_up_ne _ _ (by omega) : N3 q = N2 q).trans (low_2 q hq)
  refine q_putF (o := 90) (ci := 3) (k := 1) (fs := [.ref (qa g 91), .null]) (v := .ref (qa g 92)) C (by omega) e90_3 (rfl : vwCl[3]? = some (RX3, TX3, 2)) (Nat.le_of_ble_eq_true rfl) (qwi 206 (by decide +kernel) (by decide +kernel)) (by decide +kernel) hin rfl (tyX3_ok 1 (Nat.le_of_ble_eq_true rfl)) rfl rfl (Nat.le_of_ble_eq_true rfl) dX3_init_16 ?_
  show qR g 93 (qZ g 93) 2 p l e rmX3_init s m args below meth c 2 4 (MQ below (qQv g 103 (qZ g 103) (qmix g 90 M)) args s 12 188 (qA g)) (va_up N3 90 (.inr (3, [.ref (qa g 91),.ref (qa g 92)]))) 19 [(0, .ref (qa g 90))] []
  obtain ⟨N4, hN4⟩ : ∃ z, z = va_up N3 90 (.inr (3, [.ref (qa g 91), .ref (qa g 92)])) := ⟨_, rfl⟩
  refine q_name hN4 ?_
  have e90_4 : N4 90 = .inr (3, [.ref (qa g 91), .ref (qa g 92)]) := by rw [hN4]; exact va_up_self _ _ _
  have e91_4 : N4 91 = _ := (by rw [hN4]; exact va_up_ne _ _ (by omega) : N4 91 = N3 91).trans e91_3
  have e92_4 : N4 92 = _ := (by rw [hN4]; exact va_up_ne _ _ (by omega) : N4 92 = N3 92).trans e92_3
  have low_4 : ∀ q, q < 90 → N4 q = M q := fun q hq => (by rw [hN4]; exact va_up_ne _ _ (by omega) : N4 q = N3 q).trans (low_3 q hq)
  refine q_iconst (v := 0) C dX3_init_19 (by decide) ?_
  refine q_istore_n C (lv' := [(1, .int 0), (0, .ref (qa g 90))]) dX3_init_20 rfl (by decide) rfl ?_
  refine q_norm [1, 0] rfl ?_
  refine q_same (M1 := hm3 g M 0) (fun q hq => ?_) (hl3 C hr 2 0 (by omega))
  unfold hm3
  by_cases h : q < 90
  · rw [if_pos h, low_4 q h]
  · rw [if_neg h]
    by_cases h1 : q = 90
    · rw [if_pos h1, h1, e90_4]
    · rw [if_neg h1]
      by_cases h2 : q = 91
      · rw [if_pos h2, h2, e91_4]
        simp
      · have h3 : q = 92 := by omega
        rw [if_neg h2, h3, e92_4]
        exact qz_11 kd_92
end
