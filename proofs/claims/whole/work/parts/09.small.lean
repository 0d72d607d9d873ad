/-! SMALL ROWS for the walks that a program lays -/
def qT : Nat → Prop := fun _ => True
theorem q_ite {c : Prop} [Decidable c] {α : Type} {A B r : α} (h : (if c then A else B) = r) : (c ∧ A = r) ∨ (¬ c ∧ B = r) := by
  by_cases hc : c
  · rw [if_pos hc] at h; exact Or.inl ⟨hc, h⟩
  · rw [if_neg hc] at h; exact Or.inr ⟨hc, h⟩
theorem q_ifp {c : Prop} [Decidable c] {α : Type} {A : Option α} {r : α} (h : (if c then A else none) = some r) : c ∧ A = some r := by
  by_cases hc : c
  · rw [if_pos hc] at h; exact ⟨hc, h⟩
  · rw [if_neg hc] at h; cases h
theorem q_ifn {c : Prop} [Decidable c] {α : Type} {A : Option α} {r : α} (h : (if c then none else A) = some r) : ¬ c ∧ A = some r := by
  by_cases hc : c
  · rw [if_pos hc] at h; cases h
  · rw [if_neg hc] at h; exact ⟨hc, h⟩
theorem q_ne {x : Int32} {k : Int} {c : Int32} (hc : c.toInt = k) (h : ¬ x = c) : x.toInt ≠ k := fun z => h (Int32.toInt_inj.mp (z.trans hc.symm))
theorem tyT.l0 {o : Nat} (h : tyT o) : o < NL := by have := h.1; omega
theorem tyT.l1 {o : Nat} (h : tyT o) : o + 1 < NL := by have := h.1; omega
theorem tyT.l2 {o : Nat} (h : tyT o) : o + 2 < NL := by have := h.1; omega
theorem tyT.l3 {o : Nat} (h : tyT o) : o + 3 < NL := by have := h.1; omega
theorem tyT.l4 {o : Nat} (h : tyT o) : o + 4 < NL := h.1
theorem tyT.k0 {o : Nat} (h : tyT o) : kd o = (5, 0) := h.2.1
theorem tyT.k1 {o : Nat} (h : tyT o) : kd (o + 1) = (10, 21) := h.2.2.1
theorem tyT.k2 {o : Nat} (h : tyT o) : kd (o + 2) = (10, 21) := h.2.2.2.1
theorem tyT.k3 {o : Nat} (h : tyT o) : kd (o + 3) = (10, 21) := h.2.2.2.2.1
theorem tyT.k4 {o : Nat} (h : tyT o) : kd (o + 4) = (11, 21) := h.2.2.2.2.2
theorem tyR.l0 {o : Nat} (h : tyR o) : o < NL := by have := h.1; omega
theorem tyR.l1 {o : Nat} (h : tyR o) : o + 1 < NL := by have := h.1; omega
theorem tyR.l2 {o : Nat} (h : tyR o) : o + 2 < NL := by have := h.1; omega
theorem tyR.l3 {o : Nat} (h : tyR o) : o + 3 < NL := h.1
theorem tyR.k0 {o : Nat} (h : tyR o) : kd o = (2, 0) := h.2.1
theorem tyR.k1 {o : Nat} (h : tyR o) : kd (o + 1) = (10, 9) := h.2.2.1
theorem tyR.k2 {o : Nat} (h : tyR o) : kd (o + 2) = (10, 9) := h.2.2.2.1
theorem tyR.k3 {o : Nat} (h : tyR o) : kd (o + 3) = (10, 9) := h.2.2.2.2
theorem kd_0 : kd 0 = (7, 0) := rfl
theorem ltp_0 : 0 < NL := by decide
theorem kd_1 : kd 1 = (4, 0) := rfl
theorem ltp_1 : 1 < NL := by decide
theorem kd_2 : kd 2 = (12, 140) := rfl
theorem ltp_2 : 2 < NL := by decide
theorem kd_3 : kd 3 = (6, 0) := rfl
theorem ltp_3 : 3 < NL := by decide
theorem kd_4 : kd 4 = (1, 0) := rfl
theorem ltp_4 : 4 < NL := by decide
theorem kd_5 : kd 5 = (10, 140) := rfl
theorem ltp_5 : 5 < NL := by decide
theorem tyI_5 : tyI 5 := ⟨by decide, rfl⟩
theorem kd_6 : kd 6 = (10, 140) := rfl
theorem ltp_6 : 6 < NL := by decide
theorem tyI_6 : tyI 6 := ⟨by decide, rfl⟩
theorem kd_7 : kd 7 = (10, 140) := rfl
theorem ltp_7 : 7 < NL := by decide
theorem tyI_7 : tyI 7 := ⟨by decide, rfl⟩
theorem kd_8 : kd 8 = (5, 0) := rfl
theorem ltp_8 : 8 < NL := by decide
theorem tyT_8 : tyT 8 := ⟨by decide, rfl, rfl, rfl, rfl, rfl⟩
theorem kd_9 : kd 9 = (10, 21) := rfl
theorem ltp_9 : 9 < NL := by decide
theorem tyI_9 : tyI 9 := ⟨by decide, rfl⟩
theorem kd_10 : kd 10 = (10, 21) := rfl
theorem ltp_10 : 10 < NL := by decide
theorem tyI_10 : tyI 10 := ⟨by decide, rfl⟩
theorem kd_11 : kd 11 = (10, 21) := rfl
theorem ltp_11 : 11 < NL := by decide
theorem tyI_11 : tyI 11 := ⟨by decide, rfl⟩
theorem kd_12 : kd 12 = (11, 21) := rfl
theorem ltp_12 : 12 < NL := by decide
theorem kd_13 : kd 13 = (5, 0) := rfl
theorem ltp_13 : 13 < NL := by decide
theorem tyT_13 : tyT 13 := ⟨by decide, rfl, rfl, rfl, rfl, rfl⟩
theorem kd_14 : kd 14 = (10, 21) := rfl
theorem ltp_14 : 14 < NL := by decide
theorem tyI_14 : tyI 14 := ⟨by decide, rfl⟩
theorem kd_15 : kd 15 = (10, 21) := rfl
theorem ltp_15 : 15 < NL := by decide
theorem tyI_15 : tyI 15 := ⟨by decide, rfl⟩
theorem kd_16 : kd 16 = (10, 21) := rfl
theorem ltp_16 : 16 < NL := by decide
theorem tyI_16 : tyI 16 := ⟨by decide, rfl⟩
theorem kd_17 : kd 17 = (11, 21) := rfl
theorem ltp_17 : 17 < NL := by decide
theorem kd_18 : kd 18 = (0, 0) := rfl
theorem ltp_18 : 18 < NL := by decide
theorem kd_19 : kd 19 = (14, 14) := rfl
theorem ltp_19 : 19 < NL := by decide
theorem kd_20 : kd 20 = (5, 0) := rfl
theorem ltp_20 : 20 < NL := by decide
theorem tyT_20 : tyT 20 := ⟨by decide, rfl, rfl, rfl, rfl, rfl⟩
theorem kd_21 : kd 21 = (10, 21) := rfl
theorem ltp_21 : 21 < NL := by decide
theorem tyI_21 : tyI 21 := ⟨by decide, rfl⟩
theorem kd_22 : kd 22 = (10, 21) := rfl
theorem ltp_22 : 22 < NL := by decide
theorem tyI_22 : tyI 22 := ⟨by decide, rfl⟩
theorem kd_23 : kd 23 = (10, 21) := rfl
theorem ltp_23 : 23 < NL := by decide
theorem tyI_23 : tyI 23 := ⟨by decide, rfl⟩
theorem kd_24 : kd 24 = (11, 21) := rfl
theorem ltp_24 : 24 < NL := by decide
theorem kd_25 : kd 25 = (5, 0) := rfl
theorem ltp_25 : 25 < NL := by decide
theorem tyT_25 : tyT 25 := ⟨by decide, rfl, rfl, rfl, rfl, rfl⟩
theorem kd_26 : kd 26 = (10, 21) := rfl
theorem ltp_26 : 26 < NL := by decide
theorem tyI_26 : tyI 26 := ⟨by decide, rfl⟩
theorem kd_27 : kd 27 = (10, 21) := rfl
theorem ltp_27 : 27 < NL := by decide
theorem tyI_27 : tyI 27 := ⟨by decide, rfl⟩
theorem kd_28 : kd 28 = (10, 21) := rfl
theorem ltp_28 : 28 < NL := by decide
theorem tyI_28 : tyI 28 := ⟨by decide, rfl⟩
theorem kd_29 : kd 29 = (11, 21) := rfl
theorem ltp_29 : 29 < NL := by decide
theorem kd_30 : kd 30 = (5, 0) := rfl
theorem ltp_30 : 30 < NL := by decide
theorem tyT_30 : tyT 30 := ⟨by decide, rfl, rfl, rfl, rfl, rfl⟩
theorem kd_31 : kd 31 = (10, 21) := rfl
theorem ltp_31 : 31 < NL := by decide
theorem tyI_31 : tyI 31 := ⟨by decide, rfl⟩
theorem kd_32 : kd 32 = (10, 21) := rfl
theorem ltp_32 : 32 < NL := by decide
theorem tyI_32 : tyI 32 := ⟨by decide, rfl⟩
theorem kd_33 : kd 33 = (10, 21) := rfl
theorem ltp_33 : 33 < NL := by decide
theorem tyI_33 : tyI 33 := ⟨by decide, rfl⟩
theorem kd_34 : kd 34 = (11, 21) := rfl
theorem ltp_34 : 34 < NL := by decide
theorem kd_35 : kd 35 = (5, 0) := rfl
theorem ltp_35 : 35 < NL := by decide
theorem tyT_35 : tyT 35 := ⟨by decide, rfl, rfl, rfl, rfl, rfl⟩
theorem kd_36 : kd 36 = (10, 21) := rfl
theorem ltp_36 : 36 < NL := by decide
theorem tyI_36 : tyI 36 := ⟨by decide, rfl⟩
theorem kd_37 : kd 37 = (10, 21) := rfl
theorem ltp_37 : 37 < NL := by decide
theorem tyI_37 : tyI 37 := ⟨by decide, rfl⟩
theorem kd_38 : kd 38 = (10, 21) := rfl
theorem ltp_38 : 38 < NL := by decide
theorem tyI_38 : tyI 38 := ⟨by decide, rfl⟩
theorem kd_39 : kd 39 = (11, 21) := rfl
theorem ltp_39 : 39 < NL := by decide
theorem kd_40 : kd 40 = (5, 0) := rfl
theorem ltp_40 : 40 < NL := by decide
theorem tyT_40 : tyT 40 := ⟨by decide, rfl, rfl, rfl, rfl, rfl⟩
theorem kd_41 : kd 41 = (10, 21) := rfl
theorem ltp_41 : 41 < NL := by decide
theorem tyI_41 : tyI 41 := ⟨by decide, rfl⟩
theorem kd_42 : kd 42 = (10, 21) := rfl
theorem ltp_42 : 42 < NL := by decide
theorem tyI_42 : tyI 42 := ⟨by decide, rfl⟩
theorem kd_43 : kd 43 = (10, 21) := rfl
theorem ltp_43 : 43 < NL := by decide
theorem tyI_43 : tyI 43 := ⟨by decide, rfl⟩
theorem kd_44 : kd 44 = (11, 21) := rfl
theorem ltp_44 : 44 < NL := by decide
theorem kd_45 : kd 45 = (5, 0) := rfl
theorem ltp_45 : 45 < NL := by decide
theorem tyT_45 : tyT 45 := ⟨by decide, rfl, rfl, rfl, rfl, rfl⟩
theorem kd_46 : kd 46 = (10, 21) := rfl
theorem ltp_46 : 46 < NL := by decide
theorem tyI_46 : tyI 46 := ⟨by decide, rfl⟩
theorem kd_47 : kd 47 = (10, 21) := rfl
theorem ltp_47 : 47 < NL := by decide
theorem tyI_47 : tyI 47 := ⟨by decide, rfl⟩
theorem kd_48 : kd 48 = (10, 21) := rfl
theorem ltp_48 : 48 < NL := by decide
theorem tyI_48 : tyI 48 := ⟨by decide, rfl⟩
theorem kd_49 : kd 49 = (11, 21) := rfl
theorem ltp_49 : 49 < NL := by decide
theorem kd_50 : kd 50 = (5, 0) := rfl
theorem ltp_50 : 50 < NL := by decide
theorem tyT_50 : tyT 50 := ⟨by decide, rfl, rfl, rfl, rfl, rfl⟩
theorem kd_51 : kd 51 = (10, 21) := rfl
theorem ltp_51 : 51 < NL := by decide
theorem tyI_51 : tyI 51 := ⟨by decide, rfl⟩
theorem kd_52 : kd 52 = (10, 21) := rfl
theorem ltp_52 : 52 < NL := by decide
theorem tyI_52 : tyI 52 := ⟨by decide, rfl⟩
theorem kd_53 : kd 53 = (10, 21) := rfl
theorem ltp_53 : 53 < NL := by decide
theorem tyI_53 : tyI 53 := ⟨by decide, rfl⟩
theorem kd_54 : kd 54 = (11, 21) := rfl
theorem ltp_54 : 54 < NL := by decide
theorem kd_55 : kd 55 = (5, 0) := rfl
theorem ltp_55 : 55 < NL := by decide
theorem tyT_55 : tyT 55 := ⟨by decide, rfl, rfl, rfl, rfl, rfl⟩
theorem kd_56 : kd 56 = (10, 21) := rfl
theorem ltp_56 : 56 < NL := by decide
theorem tyI_56 : tyI 56 := ⟨by decide, rfl⟩
theorem kd_57 : kd 57 = (10, 21) := rfl
theorem ltp_57 : 57 < NL := by decide
theorem tyI_57 : tyI 57 := ⟨by decide, rfl⟩
theorem kd_58 : kd 58 = (10, 21) := rfl
theorem ltp_58 : 58 < NL := by decide
theorem tyI_58 : tyI 58 := ⟨by decide, rfl⟩
theorem kd_59 : kd 59 = (11, 21) := rfl
theorem ltp_59 : 59 < NL := by decide
theorem kd_60 : kd 60 = (5, 0) := rfl
theorem ltp_60 : 60 < NL := by decide
theorem tyT_60 : tyT 60 := ⟨by decide, rfl, rfl, rfl, rfl, rfl⟩
theorem kd_61 : kd 61 = (10, 21) := rfl
theorem ltp_61 : 61 < NL := by decide
theorem tyI_61 : tyI 61 := ⟨by decide, rfl⟩
theorem kd_62 : kd 62 = (10, 21) := rfl
theorem ltp_62 : 62 < NL := by decide
theorem tyI_62 : tyI 62 := ⟨by decide, rfl⟩
theorem kd_63 : kd 63 = (10, 21) := rfl
theorem ltp_63 : 63 < NL := by decide
theorem tyI_63 : tyI 63 := ⟨by decide, rfl⟩
theorem kd_64 : kd 64 = (11, 21) := rfl
theorem ltp_64 : 64 < NL := by decide
theorem kd_65 : kd 65 = (5, 0) := rfl
theorem ltp_65 : 65 < NL := by decide
theorem tyT_65 : tyT 65 := ⟨by decide, rfl, rfl, rfl, rfl, rfl⟩
theorem kd_66 : kd 66 = (10, 21) := rfl
theorem ltp_66 : 66 < NL := by decide
theorem tyI_66 : tyI 66 := ⟨by decide, rfl⟩
theorem kd_67 : kd 67 = (10, 21) := rfl
theorem ltp_67 : 67 < NL := by decide
theorem tyI_67 : tyI 67 := ⟨by decide, rfl⟩
theorem kd_68 : kd 68 = (10, 21) := rfl
theorem ltp_68 : 68 < NL := by decide
theorem tyI_68 : tyI 68 := ⟨by decide, rfl⟩
theorem kd_69 : kd 69 = (11, 21) := rfl
theorem ltp_69 : 69 < NL := by decide
theorem kd_70 : kd 70 = (5, 0) := rfl
theorem ltp_70 : 70 < NL := by decide
theorem tyT_70 : tyT 70 := ⟨by decide, rfl, rfl, rfl, rfl, rfl⟩
theorem kd_71 : kd 71 = (10, 21) := rfl
theorem ltp_71 : 71 < NL := by decide
theorem tyI_71 : tyI 71 := ⟨by decide, rfl⟩
theorem kd_72 : kd 72 = (10, 21) := rfl
theorem ltp_72 : 72 < NL := by decide
theorem tyI_72 : tyI 72 := ⟨by decide, rfl⟩
theorem kd_73 : kd 73 = (10, 21) := rfl
theorem ltp_73 : 73 < NL := by decide
theorem tyI_73 : tyI 73 := ⟨by decide, rfl⟩
theorem kd_74 : kd 74 = (11, 21) := rfl
theorem ltp_74 : 74 < NL := by decide
theorem kd_75 : kd 75 = (5, 0) := rfl
theorem ltp_75 : 75 < NL := by decide
theorem tyT_75 : tyT 75 := ⟨by decide, rfl, rfl, rfl, rfl, rfl⟩
theorem kd_76 : kd 76 = (10, 21) := rfl
theorem ltp_76 : 76 < NL := by decide
theorem tyI_76 : tyI 76 := ⟨by decide, rfl⟩
theorem kd_77 : kd 77 = (10, 21) := rfl
theorem ltp_77 : 77 < NL := by decide
theorem tyI_77 : tyI 77 := ⟨by decide, rfl⟩
theorem kd_78 : kd 78 = (10, 21) := rfl
theorem ltp_78 : 78 < NL := by decide
theorem tyI_78 : tyI 78 := ⟨by decide, rfl⟩
theorem kd_79 : kd 79 = (11, 21) := rfl
theorem ltp_79 : 79 < NL := by decide
theorem kd_80 : kd 80 = (5, 0) := rfl
theorem ltp_80 : 80 < NL := by decide
theorem tyT_80 : tyT 80 := ⟨by decide, rfl, rfl, rfl, rfl, rfl⟩
theorem kd_81 : kd 81 = (10, 21) := rfl
theorem ltp_81 : 81 < NL := by decide
theorem tyI_81 : tyI 81 := ⟨by decide, rfl⟩
theorem kd_82 : kd 82 = (10, 21) := rfl
theorem ltp_82 : 82 < NL := by decide
theorem tyI_82 : tyI 82 := ⟨by decide, rfl⟩
theorem kd_83 : kd 83 = (10, 21) := rfl
theorem ltp_83 : 83 < NL := by decide
theorem tyI_83 : tyI 83 := ⟨by decide, rfl⟩
theorem kd_84 : kd 84 = (11, 21) := rfl
theorem ltp_84 : 84 < NL := by decide
theorem kd_85 : kd 85 = (5, 0) := rfl
theorem ltp_85 : 85 < NL := by decide
theorem tyT_85 : tyT 85 := ⟨by decide, rfl, rfl, rfl, rfl, rfl⟩
theorem kd_86 : kd 86 = (10, 21) := rfl
theorem ltp_86 : 86 < NL := by decide
theorem tyI_86 : tyI 86 := ⟨by decide, rfl⟩
theorem kd_87 : kd 87 = (10, 21) := rfl
theorem ltp_87 : 87 < NL := by decide
theorem tyI_87 : tyI 87 := ⟨by decide, rfl⟩
theorem kd_88 : kd 88 = (10, 21) := rfl
theorem ltp_88 : 88 < NL := by decide
theorem tyI_88 : tyI 88 := ⟨by decide, rfl⟩
theorem kd_89 : kd 89 = (11, 21) := rfl
theorem ltp_89 : 89 < NL := by decide
theorem kd_90 : kd 90 = (3, 0) := rfl
theorem ltp_90 : 90 < NL := by decide
theorem kd_91 : kd 91 = (15, 2) := rfl
theorem ltp_91 : 91 < NL := by decide
theorem kd_92 : kd 92 = (11, 2) := rfl
theorem ltp_92 : 92 < NL := by decide
theorem kd_93 : kd 93 = (5, 0) := rfl
theorem ltp_93 : 93 < NL := by decide
theorem tyT_93 : tyT 93 := ⟨by decide, rfl, rfl, rfl, rfl, rfl⟩
theorem kd_94 : kd 94 = (10, 21) := rfl
theorem ltp_94 : 94 < NL := by decide
theorem tyI_94 : tyI 94 := ⟨by decide, rfl⟩
theorem kd_95 : kd 95 = (10, 21) := rfl
theorem ltp_95 : 95 < NL := by decide
theorem tyI_95 : tyI 95 := ⟨by decide, rfl⟩
theorem kd_96 : kd 96 = (10, 21) := rfl
theorem ltp_96 : 96 < NL := by decide
theorem tyI_96 : tyI 96 := ⟨by decide, rfl⟩
theorem kd_97 : kd 97 = (11, 21) := rfl
theorem ltp_97 : 97 < NL := by decide
theorem kd_98 : kd 98 = (5, 0) := rfl
theorem ltp_98 : 98 < NL := by decide
theorem tyT_98 : tyT 98 := ⟨by decide, rfl, rfl, rfl, rfl, rfl⟩
theorem kd_99 : kd 99 = (10, 21) := rfl
theorem ltp_99 : 99 < NL := by decide
theorem tyI_99 : tyI 99 := ⟨by decide, rfl⟩
theorem kd_100 : kd 100 = (10, 21) := rfl
theorem ltp_100 : 100 < NL := by decide
theorem tyI_100 : tyI 100 := ⟨by decide, rfl⟩
theorem kd_101 : kd 101 = (10, 21) := rfl
theorem ltp_101 : 101 < NL := by decide
theorem tyI_101 : tyI 101 := ⟨by decide, rfl⟩
theorem kd_102 : kd 102 = (11, 21) := rfl
theorem ltp_102 : 102 < NL := by decide
theorem kd_103 : kd 103 = (2, 0) := rfl
theorem ltp_103 : 103 < NL := by decide
theorem tyR_103 : tyR 103 := ⟨by decide, rfl, rfl, rfl, rfl⟩
theorem kd_104 : kd 104 = (10, 9) := rfl
theorem ltp_104 : 104 < NL := by decide
theorem tyI_104 : tyI 104 := ⟨by decide, rfl⟩
theorem kd_105 : kd 105 = (10, 9) := rfl
theorem ltp_105 : 105 < NL := by decide
theorem tyI_105 : tyI 105 := ⟨by decide, rfl⟩
theorem kd_106 : kd 106 = (10, 9) := rfl
theorem ltp_106 : 106 < NL := by decide
theorem tyI_106 : tyI 106 := ⟨by decide, rfl⟩
theorem kd_107 : kd 107 = (2, 0) := rfl
theorem ltp_107 : 107 < NL := by decide
theorem tyR_107 : tyR 107 := ⟨by decide, rfl, rfl, rfl, rfl⟩
theorem kd_108 : kd 108 = (10, 9) := rfl
theorem ltp_108 : 108 < NL := by decide
theorem tyI_108 : tyI 108 := ⟨by decide, rfl⟩
theorem kd_109 : kd 109 = (10, 9) := rfl
theorem ltp_109 : 109 < NL := by decide
theorem tyI_109 : tyI 109 := ⟨by decide, rfl⟩
theorem kd_110 : kd 110 = (10, 9) := rfl
theorem ltp_110 : 110 < NL := by decide
theorem tyI_110 : tyI 110 := ⟨by decide, rfl⟩
theorem kd_111 : kd 111 = (8, 0) := rfl
theorem ltp_111 : 111 < NL := by decide
theorem kd_112 : kd 112 = (10, 140) := rfl
theorem ltp_112 : 112 < NL := by decide
theorem tyI_112 : tyI 112 := ⟨by decide, rfl⟩
theorem kd_113 : kd 113 = (10, 84) := rfl
theorem ltp_113 : 113 < NL := by decide
theorem tyI_113 : tyI 113 := ⟨by decide, rfl⟩
theorem kd_114 : kd 114 = (10, 84) := rfl
theorem ltp_114 : 114 < NL := by decide
theorem tyI_114 : tyI 114 := ⟨by decide, rfl⟩
theorem kd_115 : kd 115 = (10, 84) := rfl
theorem ltp_115 : 115 < NL := by decide
theorem tyI_115 : tyI 115 := ⟨by decide, rfl⟩
theorem kd_116 : kd 116 = (10, 1176) := rfl
theorem ltp_116 : 116 < NL := by decide
theorem tyI_116 : tyI 116 := ⟨by decide, rfl⟩
theorem kd_117 : kd 117 = (10, 168) := rfl
theorem ltp_117 : 117 < NL := by decide
theorem tyI_117 : tyI 117 := ⟨by decide, rfl⟩
theorem kd_118 : kd 118 = (11, 2) := rfl
theorem ltp_118 : 118 < NL := by decide
theorem kd_119 : kd 119 = (10, 25) := rfl
theorem ltp_119 : 119 < NL := by decide
theorem tyI_119 : tyI 119 := ⟨by decide, rfl⟩
theorem kd_120 : kd 120 = (10, 81) := rfl
theorem ltp_120 : 120 < NL := by decide
theorem tyI_120 : tyI 120 := ⟨by decide, rfl⟩
theorem kd_121 : kd 121 = (10, 9) := rfl
theorem ltp_121 : 121 < NL := by decide
theorem tyI_121 : tyI 121 := ⟨by decide, rfl⟩
theorem kd_122 : kd 122 = (10, 9) := rfl
theorem ltp_122 : 122 < NL := by decide
theorem tyI_122 : tyI 122 := ⟨by decide, rfl⟩
theorem kd_123 : kd 123 = (10, 10) := rfl
theorem ltp_123 : 123 < NL := by decide
theorem tyI_123 : tyI 123 := ⟨by decide, rfl⟩
theorem kd_124 : kd 124 = (10, 10) := rfl
theorem ltp_124 : 124 < NL := by decide
theorem tyI_124 : tyI 124 := ⟨by decide, rfl⟩
theorem kd_125 : kd 125 = (11, 9) := rfl
theorem ltp_125 : 125 < NL := by decide
theorem kd_126 : kd 126 = (13, 1) := rfl
theorem ltp_126 : 126 < NL := by decide
theorem tyT_hs0 : ∀ i, i < 14 → tyT (19 + 1 + 5 * i) := by
  unfold tyT
  decide +kernel
theorem tyT_ss0 : ∀ i, i < 2 → tyT (91 + 2 + 5 * i) := by
  unfold tyT
  decide +kernel
theorem qin_lt {i : Int32} {n : Nat} (h : qin i n = true) : i.toNatClampNeg < n := by
  simp only [qin, Bool.and_eq_true, decide_eq_true_eq] at h
  exact h.2
theorem tyT_h {i : Int32} (h : qin i 14 = true) : tyT (19 + 1 + 5 * i.toNatClampNeg) := tyT_hs0 _ (qin_lt h)
theorem tyT_s {i : Int32} (h : qin i 2 = true) : tyT (91 + 2 + 5 * i.toNatClampNeg) := tyT_ss0 _ (qin_lt h)
/-- a value with a name -/
def obs {α β : Type} (x : α) (f : α → β) : β := f x
theorem obs_e {α β : Type} {x : α} {f : α → β} {r : β} (h : obs x f = r) : ∃ y, y = x ∧ f y = r := ⟨x, rfl, h⟩
section QLZ
variable {g : qG} {N : Nat} {hz : Nat → Prop} {nL : Nat} {p : Program} {l : Launch} {e : Env} {R : Room} {s : State} {m : MethodId} {args : Array Value} {below : List Frame} {meth : Method} {c : Code} {cells slots : Nat} {Q : State → Prop} {M : Nat → va_E} {pc : Nat} {lv : List (Nat × Value)} {rest : List Value} {cc : ByteArray} {own : String}
theorem q_callVi0 (C : qC g cc own nL p s m meth c) {y : MethodName} {bytes : ByteArray} {rm : Room} {maxL n index N1 : Nat} {hz1 : Nat → Prop} {M1 : Nat → va_E} {As st0 : List Value} {ret : Option FieldType}  {o ci : Nat} {fs : List Value} {q : vw_C} (ho : o < N) (hMo : M o = .inr (ci, fs)) (hc : vwCl[ci]? = some q) (hq : q.1 = y.cls) {r0 : Int32} (hM : Met l y [.code y bytes maxL ret] rm (qPc g N hz M (.ref (qa g o) :: As)) (qQi g N1 hz1 M1 r0) 0 0 (qA g)) (L : qLV own index y bytes maxL ret n) (hn : As.length = n) (hst : st0 = As.reverse ++ .ref (qa g o) :: rest) (hcat : (rest.map fun v => v.category).sum ≤ 8) (hdg : decode cc pc = .ok (.invokevirtual index, 3)) (hrm : qRm rm R maxL cells slots 0 0) (k : qR g N1 hz1 nL p l e R s m args below meth c cells slots Q M1 (pc + 3) lv (.int r0 :: rest)) : qR g N hz nL p l e R s m args below meth c cells slots Q M pc lv st0 :=
  q_callVi C ho hMo hc hq hM L hn hst hcat hdg hrm k
theorem q_callVl0 (C : qC g cc own nL p s m meth c) {y : MethodName} {bytes : ByteArray} {rm : Room} {maxL n index N1 : Nat} {hz1 : Nat → Prop} {M1 : Nat → va_E} {As st0 : List Value} {ret : Option FieldType}  {o ci : Nat} {fs : List Value} {q : vw_C} (ho : o < N) (hMo : M o = .inr (ci, fs)) (hc : vwCl[ci]? = some q) (hq : q.1 = y.cls) {r0 : Int64} (hM : Met l y [.code y bytes maxL ret] rm (qPc g N hz M (.ref (qa g o) :: As)) (qQl g N1 hz1 M1 r0) 0 0 (qA g)) (L : qLV own index y bytes maxL ret n) (hn : As.length = n) (hst : st0 = As.reverse ++ .ref (qa g o) :: rest) (hcat : (rest.map fun v => v.category).sum ≤ 8) (hdg : decode cc pc = .ok (.invokevirtual index, 3)) (hrm : qRm rm R maxL cells slots 0 0) (k : qR g N1 hz1 nL p l e R s m args below meth c cells slots Q M1 (pc + 3) lv (.long r0 :: rest)) : qR g N hz nL p l e R s m args below meth c cells slots Q M pc lv st0 :=
  q_callVl C ho hMo hc hq hM L hn hst hcat hdg hrm k
theorem q_callVv0 (C : qC g cc own nL p s m meth c) {y : MethodName} {bytes : ByteArray} {rm : Room} {maxL n index N1 : Nat} {hz1 : Nat → Prop} {M1 : Nat → va_E} {As st0 : List Value} {ret : Option FieldType}  {o ci : Nat} {fs : List Value} {q : vw_C} (ho : o < N) (hMo : M o = .inr (ci, fs)) (hc : vwCl[ci]? = some q) (hq : q.1 = y.cls) (hM : Met l y [.code y bytes maxL ret] rm (qPc g N hz M (.ref (qa g o) :: As)) (qQv g N1 hz1 M1) 0 0 (qA g)) (L : qLV own index y bytes maxL ret n) (hn : As.length = n) (hst : st0 = As.reverse ++ .ref (qa g o) :: rest) (hcat : (rest.map fun v => v.category).sum ≤ 8) (hdg : decode cc pc = .ok (.invokevirtual index, 3)) (hrm : qRm rm R maxL cells slots 0 0) (k : qR g N1 hz1 nL p l e R s m args below meth c cells slots Q M1 (pc + 3) lv rest) : qR g N hz nL p l e R s m args below meth c cells slots Q M pc lv st0 :=
  q_callVv C ho hMo hc hq hM L hn hst hcat hdg hrm k
theorem q_callVr0 (C : qC g cc own nL p s m meth c) {y : MethodName} {bytes : ByteArray} {rm : Room} {maxL n index N1 : Nat} {hz1 : Nat → Prop} {M1 : Nat → va_E} {As st0 : List Value} {ret : Option FieldType}  {o ci : Nat} {fs : List Value} {q : vw_C} (ho : o < N) (hMo : M o = .inr (ci, fs)) (hc : vwCl[ci]? = some q) (hq : q.1 = y.cls) {r0 : Nat} (hM : Met l y [.code y bytes maxL ret] rm (qPc g N hz M (.ref (qa g o) :: As)) (qQr g N1 hz1 M1 r0) 0 0 (qA g)) (L : qLV own index y bytes maxL ret n) (hn : As.length = n) (hst : st0 = As.reverse ++ .ref (qa g o) :: rest) (hcat : (rest.map fun v => v.category).sum ≤ 8) (hdg : decode cc pc = .ok (.invokevirtual index, 3)) (hrm : qRm rm R maxL cells slots 0 0) (k : qR g N1 hz1 nL p l e R s m args below meth c cells slots Q M1 (pc + 3) lv (.ref r0 :: rest)) : qR g N hz nL p l e R s m args below meth c cells slots Q M pc lv st0 :=
  q_callVr C ho hMo hc hq hM L hn hst hcat hdg hrm k
theorem q_callSi0 (C : qC g cc own nL p s m meth c) {y : MethodName} {bytes : ByteArray} {rm : Room} {maxL n index N1 : Nat} {hz1 : Nat → Prop} {M1 : Nat → va_E} {As st0 : List Value} {ret : Option FieldType}  {r0 : Int32} (hM : Met l y [.code y bytes maxL ret] rm (qPc g N hz M As) (qQi g N1 hz1 M1 r0) 0 0 (qA g)) (L : qLS own index y bytes maxL ret n) (hn : As.length = n) (hst : st0 = As.reverse ++ rest) (hcat : (rest.map fun v => v.category).sum ≤ 8) (hdg : decode cc pc = .ok (.invokestatic index, 3)) (hrm : qRm rm R maxL cells slots 0 0) (k : qR g N1 hz1 nL p l e R s m args below meth c cells slots Q M1 (pc + 3) lv (.int r0 :: rest)) : qR g N hz nL p l e R s m args below meth c cells slots Q M pc lv st0 :=
  q_callSi C hM L hn hst hcat hdg hrm k
theorem q_callSl0 (C : qC g cc own nL p s m meth c) {y : MethodName} {bytes : ByteArray} {rm : Room} {maxL n index N1 : Nat} {hz1 : Nat → Prop} {M1 : Nat → va_E} {As st0 : List Value} {ret : Option FieldType}  {r0 : Int64} (hM : Met l y [.code y bytes maxL ret] rm (qPc g N hz M As) (qQl g N1 hz1 M1 r0) 0 0 (qA g)) (L : qLS own index y bytes maxL ret n) (hn : As.length = n) (hst : st0 = As.reverse ++ rest) (hcat : (rest.map fun v => v.category).sum ≤ 8) (hdg : decode cc pc = .ok (.invokestatic index, 3)) (hrm : qRm rm R maxL cells slots 0 0) (k : qR g N1 hz1 nL p l e R s m args below meth c cells slots Q M1 (pc + 3) lv (.long r0 :: rest)) : qR g N hz nL p l e R s m args below meth c cells slots Q M pc lv st0 :=
  q_callSl C hM L hn hst hcat hdg hrm k
theorem q_callSv0 (C : qC g cc own nL p s m meth c) {y : MethodName} {bytes : ByteArray} {rm : Room} {maxL n index N1 : Nat} {hz1 : Nat → Prop} {M1 : Nat → va_E} {As st0 : List Value} {ret : Option FieldType}  (hM : Met l y [.code y bytes maxL ret] rm (qPc g N hz M As) (qQv g N1 hz1 M1) 0 0 (qA g)) (L : qLS own index y bytes maxL ret n) (hn : As.length = n) (hst : st0 = As.reverse ++ rest) (hcat : (rest.map fun v => v.category).sum ≤ 8) (hdg : decode cc pc = .ok (.invokestatic index, 3)) (hrm : qRm rm R maxL cells slots 0 0) (k : qR g N1 hz1 nL p l e R s m args below meth c cells slots Q M1 (pc + 3) lv rest) : qR g N hz nL p l e R s m args below meth c cells slots Q M pc lv st0 :=
  q_callSv C hM L hn hst hcat hdg hrm k
theorem q_callSr0 (C : qC g cc own nL p s m meth c) {y : MethodName} {bytes : ByteArray} {rm : Room} {maxL n index N1 : Nat} {hz1 : Nat → Prop} {M1 : Nat → va_E} {As st0 : List Value} {ret : Option FieldType}  {r0 : Nat} (hM : Met l y [.code y bytes maxL ret] rm (qPc g N hz M As) (qQr g N1 hz1 M1 r0) 0 0 (qA g)) (L : qLS own index y bytes maxL ret n) (hn : As.length = n) (hst : st0 = As.reverse ++ rest) (hcat : (rest.map fun v => v.category).sum ≤ 8) (hdg : decode cc pc = .ok (.invokestatic index, 3)) (hrm : qRm rm R maxL cells slots 0 0) (k : qR g N1 hz1 nL p l e R s m args below meth c cells slots Q M1 (pc + 3) lv (.ref r0 :: rest)) : qR g N hz nL p l e R s m args below meth c cells slots Q M pc lv st0 :=
  q_callSr C hM L hn hst hcat hdg hrm k
theorem q_callSNi0 (C : qC g cc own nL p s m meth c) {y : MethodName} {bytes : ByteArray} {rm : Room} {maxL n index N1 : Nat} {hz1 : Nat → Prop} {M1 : Nat → va_E} {As st0 : List Value} {ret : Option FieldType} {host : String}  {r0 : Int32} (hM : Met l y [.code y bytes maxL ret] rm (qPc g N hz M As) (qQi g N1 hz1 M1 r0) 0 0 (qA g)) (L : qLSN own host index y bytes maxL ret n) (hn : As.length = n) (hst : st0 = As.reverse ++ rest) (hcat : (rest.map fun v => v.category).sum ≤ 8) (hdg : decode cc pc = .ok (.invokestatic index, 3)) (hrm : qRm rm R maxL cells slots 0 0) (k : qR g N1 hz1 nL p l e R s m args below meth c cells slots Q M1 (pc + 3) lv (.int r0 :: rest)) : qR g N hz nL p l e R s m args below meth c cells slots Q M pc lv st0 :=
  q_callSNi C hM L hn hst hcat hdg hrm k
theorem q_callSNl0 (C : qC g cc own nL p s m meth c) {y : MethodName} {bytes : ByteArray} {rm : Room} {maxL n index N1 : Nat} {hz1 : Nat → Prop} {M1 : Nat → va_E} {As st0 : List Value} {ret : Option FieldType} {host : String}  {r0 : Int64} (hM : Met l y [.code y bytes maxL ret] rm (qPc g N hz M As) (qQl g N1 hz1 M1 r0) 0 0 (qA g)) (L : qLSN own host index y bytes maxL ret n) (hn : As.length = n) (hst : st0 = As.reverse ++ rest) (hcat : (rest.map fun v => v.category).sum ≤ 8) (hdg : decode cc pc = .ok (.invokestatic index, 3)) (hrm : qRm rm R maxL cells slots 0 0) (k : qR g N1 hz1 nL p l e R s m args below meth c cells slots Q M1 (pc + 3) lv (.long r0 :: rest)) : qR g N hz nL p l e R s m args below meth c cells slots Q M pc lv st0 :=
  q_callSNl C hM L hn hst hcat hdg hrm k
theorem q_callSNv0 (C : qC g cc own nL p s m meth c) {y : MethodName} {bytes : ByteArray} {rm : Room} {maxL n index N1 : Nat} {hz1 : Nat → Prop} {M1 : Nat → va_E} {As st0 : List Value} {ret : Option FieldType} {host : String}  (hM : Met l y [.code y bytes maxL ret] rm (qPc g N hz M As) (qQv g N1 hz1 M1) 0 0 (qA g)) (L : qLSN own host index y bytes maxL ret n) (hn : As.length = n) (hst : st0 = As.reverse ++ rest) (hcat : (rest.map fun v => v.category).sum ≤ 8) (hdg : decode cc pc = .ok (.invokestatic index, 3)) (hrm : qRm rm R maxL cells slots 0 0) (k : qR g N1 hz1 nL p l e R s m args below meth c cells slots Q M1 (pc + 3) lv rest) : qR g N hz nL p l e R s m args below meth c cells slots Q M pc lv st0 :=
  q_callSNv C hM L hn hst hcat hdg hrm k
theorem q_callSNr0 (C : qC g cc own nL p s m meth c) {y : MethodName} {bytes : ByteArray} {rm : Room} {maxL n index N1 : Nat} {hz1 : Nat → Prop} {M1 : Nat → va_E} {As st0 : List Value} {ret : Option FieldType} {host : String}  {r0 : Nat} (hM : Met l y [.code y bytes maxL ret] rm (qPc g N hz M As) (qQr g N1 hz1 M1 r0) 0 0 (qA g)) (L : qLSN own host index y bytes maxL ret n) (hn : As.length = n) (hst : st0 = As.reverse ++ rest) (hcat : (rest.map fun v => v.category).sum ≤ 8) (hdg : decode cc pc = .ok (.invokestatic index, 3)) (hrm : qRm rm R maxL cells slots 0 0) (k : qR g N1 hz1 nL p l e R s m args below meth c cells slots Q M1 (pc + 3) lv (.ref r0 :: rest)) : qR g N hz nL p l e R s m args below meth c cells slots Q M pc lv st0 :=
  q_callSNr C hM L hn hst hcat hdg hrm k
end QLZ
