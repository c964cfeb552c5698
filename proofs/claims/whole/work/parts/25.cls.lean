/-! 25: what the small methods answer -/
theorem S_isRow {d : Nat} {x : Int} {G : AG} {h : AH} {Q : Option AV → AG → AH → Prop} (hd : 1 ≤ d ∧ (-2147483648 ≤ x ∧ x < 2147483648)) : call d 78 [.inl x] G h Q = if 0 ≤ x ∧ x < 6 then Q (some (.inl 1)) G h else Q (some (.inl 0)) G h := by
  obtain ⟨d, rfl, hd2⟩ := pos_of hd.1
  rw [C_78]
  by_cases hc : 0 ≤ x ∧ x < 6
  · rw [if_pos hc]
    simp (disch := omega) only [X_78_0, X_78_1_t, X_78_1_f, X_78_1, X_78_4, X_78_5, X_78_7_t, X_78_7_f, X_78_7, X_78_10, X_78_11, X_78_14, X_78_15, pushR_some, Int.reduceAdd, Int.reduceSub, Int.reduceMul, Int.reduceDiv, Int.reduceMod, Int.reduceNeg, Int.reduceToNat, Int.reduceLT, Int.reduceLE, Int.reduceEq, Nat.reduceAdd, Nat.reduceMul, Nat.reduceEqDiff, reduceIte, or_true, true_or, or_false, false_or, or_self, and_true, true_and, and_false, false_and, not_true_eq_false, not_false_eq_true, ne_eq] <;> (repeat' split) <;> first | rfl | (exfalso; omega)
  · rw [if_neg hc]
    simp (disch := omega) only [X_78_0, X_78_1_t, X_78_1_f, X_78_1, X_78_4, X_78_5, X_78_7_t, X_78_7_f, X_78_7, X_78_10, X_78_11, X_78_14, X_78_15, pushR_some, Int.reduceAdd, Int.reduceSub, Int.reduceMul, Int.reduceDiv, Int.reduceMod, Int.reduceNeg, Int.reduceToNat, Int.reduceLT, Int.reduceLE, Int.reduceEq, Nat.reduceAdd, Nat.reduceMul, Nat.reduceEqDiff, reduceIte, or_true, true_or, or_false, false_or, or_self, and_true, true_and, and_false, false_and, not_true_eq_false, not_false_eq_true, ne_eq] <;> (repeat' split) <;> first | rfl | (exfalso; omega)
theorem S_isRow_t {d : Nat} {x : Int} {G : AG} {h : AH} {Q : Option AV → AG → AH → Prop} (hd : (1 ≤ d ∧ (-2147483648 ≤ x ∧ x < 2147483648)) ∧ (0 ≤ x ∧ x < 6)) : call d 78 [.inl x] G h Q = Q (some (.inl 1)) G h := by rw [S_isRow hd.1, if_pos hd.2]
theorem S_isRow_f {d : Nat} {x : Int} {G : AG} {h : AH} {Q : Option AV → AG → AH → Prop} (hd : (1 ≤ d ∧ (-2147483648 ≤ x ∧ x < 2147483648)) ∧ ¬ (0 ≤ x ∧ x < 6)) : call d 78 [.inl x] G h Q = Q (some (.inl 0)) G h := by rw [S_isRow hd.1, if_neg hd.2]
theorem S_isText {d : Nat} {x : Int} {G : AG} {h : AH} {Q : Option AV → AG → AH → Prop} (hd : 1 ≤ d ∧ (-2147483648 ≤ x ∧ x < 2147483648)) : call d 79 [.inl x] G h Q = if 0 ≤ x ∧ x < 4 then Q (some (.inl 1)) G h else Q (some (.inl 0)) G h := by
  obtain ⟨d, rfl, hd2⟩ := pos_of hd.1
  rw [C_79]
  by_cases hc : 0 ≤ x ∧ x < 4
  · rw [if_pos hc]
    simp (disch := omega) only [X_79_0, X_79_1_t, X_79_1_f, X_79_1, X_79_4, X_79_5, X_79_6_t, X_79_6_f, X_79_6, X_79_9, X_79_10, X_79_13, X_79_14, pushR_some, Int.reduceAdd, Int.reduceSub, Int.reduceMul, Int.reduceDiv, Int.reduceMod, Int.reduceNeg, Int.reduceToNat, Int.reduceLT, Int.reduceLE, Int.reduceEq, Nat.reduceAdd, Nat.reduceMul, Nat.reduceEqDiff, reduceIte, or_true, true_or, or_false, false_or, or_self, and_true, true_and, and_false, false_and, not_true_eq_false, not_false_eq_true, ne_eq] <;> (repeat' split) <;> first | rfl | (exfalso; omega)
  · rw [if_neg hc]
    simp (disch := omega) only [X_79_0, X_79_1_t, X_79_1_f, X_79_1, X_79_4, X_79_5, X_79_6_t, X_79_6_f, X_79_6, X_79_9, X_79_10, X_79_13, X_79_14, pushR_some, Int.reduceAdd, Int.reduceSub, Int.reduceMul, Int.reduceDiv, Int.reduceMod, Int.reduceNeg, Int.reduceToNat, Int.reduceLT, Int.reduceLE, Int.reduceEq, Nat.reduceAdd, Nat.reduceMul, Nat.reduceEqDiff, reduceIte, or_true, true_or, or_false, false_or, or_self, and_true, true_and, and_false, false_and, not_true_eq_false, not_false_eq_true, ne_eq] <;> (repeat' split) <;> first | rfl | (exfalso; omega)
theorem S_isText_t {d : Nat} {x : Int} {G : AG} {h : AH} {Q : Option AV → AG → AH → Prop} (hd : (1 ≤ d ∧ (-2147483648 ≤ x ∧ x < 2147483648)) ∧ (0 ≤ x ∧ x < 4)) : call d 79 [.inl x] G h Q = Q (some (.inl 1)) G h := by rw [S_isText hd.1, if_pos hd.2]
theorem S_isText_f {d : Nat} {x : Int} {G : AG} {h : AH} {Q : Option AV → AG → AH → Prop} (hd : (1 ≤ d ∧ (-2147483648 ≤ x ∧ x < 2147483648)) ∧ ¬ (0 ≤ x ∧ x < 4)) : call d 79 [.inl x] G h Q = Q (some (.inl 0)) G h := by rw [S_isText hd.1, if_neg hd.2]
theorem S_isKeeping {d : Nat} {x : Int} {G : AG} {h : AH} {Q : Option AV → AG → AH → Prop} (hd : 1 ≤ d ∧ (-2147483648 ≤ x ∧ x < 2147483648)) : call d 80 [.inl x] G h Q = if 0 ≤ x ∧ x < 3 then Q (some (.inl 1)) G h else Q (some (.inl 0)) G h := by
  obtain ⟨d, rfl, hd2⟩ := pos_of hd.1
  rw [C_80]
  by_cases hc : 0 ≤ x ∧ x < 3
  · rw [if_pos hc]
    simp (disch := omega) only [X_80_0, X_80_1_t, X_80_1_f, X_80_1, X_80_4, X_80_5, X_80_6_t, X_80_6_f, X_80_6, X_80_9, X_80_10, X_80_13, X_80_14, pushR_some, Int.reduceAdd, Int.reduceSub, Int.reduceMul, Int.reduceDiv, Int.reduceMod, Int.reduceNeg, Int.reduceToNat, Int.reduceLT, Int.reduceLE, Int.reduceEq, Nat.reduceAdd, Nat.reduceMul, Nat.reduceEqDiff, reduceIte, or_true, true_or, or_false, false_or, or_self, and_true, true_and, and_false, false_and, not_true_eq_false, not_false_eq_true, ne_eq] <;> (repeat' split) <;> first | rfl | (exfalso; omega)
  · rw [if_neg hc]
    simp (disch := omega) only [X_80_0, X_80_1_t, X_80_1_f, X_80_1, X_80_4, X_80_5, X_80_6_t, X_80_6_f, X_80_6, X_80_9, X_80_10, X_80_13, X_80_14, pushR_some, Int.reduceAdd, Int.reduceSub, Int.reduceMul, Int.reduceDiv, Int.reduceMod, Int.reduceNeg, Int.reduceToNat, Int.reduceLT, Int.reduceLE, Int.reduceEq, Nat.reduceAdd, Nat.reduceMul, Nat.reduceEqDiff, reduceIte, or_true, true_or, or_false, false_or, or_self, and_true, true_and, and_false, false_and, not_true_eq_false, not_false_eq_true, ne_eq] <;> (repeat' split) <;> first | rfl | (exfalso; omega)
theorem S_isKeeping_t {d : Nat} {x : Int} {G : AG} {h : AH} {Q : Option AV → AG → AH → Prop} (hd : (1 ≤ d ∧ (-2147483648 ≤ x ∧ x < 2147483648)) ∧ (0 ≤ x ∧ x < 3)) : call d 80 [.inl x] G h Q = Q (some (.inl 1)) G h := by rw [S_isKeeping hd.1, if_pos hd.2]
theorem S_isKeeping_f {d : Nat} {x : Int} {G : AG} {h : AH} {Q : Option AV → AG → AH → Prop} (hd : (1 ≤ d ∧ (-2147483648 ≤ x ∧ x < 2147483648)) ∧ ¬ (0 ≤ x ∧ x < 3)) : call d 80 [.inl x] G h Q = Q (some (.inl 0)) G h := by rw [S_isKeeping hd.1, if_neg hd.2]
theorem S_isCell {d : Nat} {x : Int} {G : AG} {h : AH} {Q : Option AV → AG → AH → Prop} (hd : 1 ≤ d ∧ (-2147483648 ≤ x ∧ x < 2147483648)) : call d 81 [.inl x] G h Q = if 0 ≤ x ∧ x < 14 then Q (some (.inl 1)) G h else Q (some (.inl 0)) G h := by
  obtain ⟨d, rfl, hd2⟩ := pos_of hd.1
  rw [C_81]
  by_cases hc : 0 ≤ x ∧ x < 14
  · rw [if_pos hc]
    simp (disch := omega) only [X_81_0, X_81_1_t, X_81_1_f, X_81_1, X_81_4, X_81_5, X_81_7_t, X_81_7_f, X_81_7, X_81_10, X_81_11, X_81_14, X_81_15, pushR_some, Int.reduceAdd, Int.reduceSub, Int.reduceMul, Int.reduceDiv, Int.reduceMod, Int.reduceNeg, Int.reduceToNat, Int.reduceLT, Int.reduceLE, Int.reduceEq, Nat.reduceAdd, Nat.reduceMul, Nat.reduceEqDiff, reduceIte, or_true, true_or, or_false, false_or, or_self, and_true, true_and, and_false, false_and, not_true_eq_false, not_false_eq_true, ne_eq] <;> (repeat' split) <;> first | rfl | (exfalso; omega)
  · rw [if_neg hc]
    simp (disch := omega) only [X_81_0, X_81_1_t, X_81_1_f, X_81_1, X_81_4, X_81_5, X_81_7_t, X_81_7_f, X_81_7, X_81_10, X_81_11, X_81_14, X_81_15, pushR_some, Int.reduceAdd, Int.reduceSub, Int.reduceMul, Int.reduceDiv, Int.reduceMod, Int.reduceNeg, Int.reduceToNat, Int.reduceLT, Int.reduceLE, Int.reduceEq, Nat.reduceAdd, Nat.reduceMul, Nat.reduceEqDiff, reduceIte, or_true, true_or, or_false, false_or, or_self, and_true, true_and, and_false, false_and, not_true_eq_false, not_false_eq_true, ne_eq] <;> (repeat' split) <;> first | rfl | (exfalso; omega)
theorem S_isCell_t {d : Nat} {x : Int} {G : AG} {h : AH} {Q : Option AV → AG → AH → Prop} (hd : (1 ≤ d ∧ (-2147483648 ≤ x ∧ x < 2147483648)) ∧ (0 ≤ x ∧ x < 14)) : call d 81 [.inl x] G h Q = Q (some (.inl 1)) G h := by rw [S_isCell hd.1, if_pos hd.2]
theorem S_isCell_f {d : Nat} {x : Int} {G : AG} {h : AH} {Q : Option AV → AG → AH → Prop} (hd : (1 ≤ d ∧ (-2147483648 ≤ x ∧ x < 2147483648)) ∧ ¬ (0 ≤ x ∧ x < 14)) : call d 81 [.inl x] G h Q = Q (some (.inl 0)) G h := by rw [S_isCell hd.1, if_neg hd.2]
theorem S_isColour {d : Nat} {x : Int} {G : AG} {h : AH} {Q : Option AV → AG → AH → Prop} (hd : 1 ≤ d ∧ (-2147483648 ≤ x ∧ x < 2147483648)) : call d 82 [.inl x] G h Q = if 0 ≤ x ∧ x < 10 then Q (some (.inl 1)) G h else Q (some (.inl 0)) G h := by
  obtain ⟨d, rfl, hd2⟩ := pos_of hd.1
  rw [C_82]
  by_cases hc : 0 ≤ x ∧ x < 10
  · rw [if_pos hc]
    simp (disch := omega) only [X_82_0, X_82_1_t, X_82_1_f, X_82_1, X_82_4, X_82_5, X_82_7_t, X_82_7_f, X_82_7, X_82_10, X_82_11, X_82_14, X_82_15, pushR_some, Int.reduceAdd, Int.reduceSub, Int.reduceMul, Int.reduceDiv, Int.reduceMod, Int.reduceNeg, Int.reduceToNat, Int.reduceLT, Int.reduceLE, Int.reduceEq, Nat.reduceAdd, Nat.reduceMul, Nat.reduceEqDiff, reduceIte, or_true, true_or, or_false, false_or, or_self, and_true, true_and, and_false, false_and, not_true_eq_false, not_false_eq_true, ne_eq] <;> (repeat' split) <;> first | rfl | (exfalso; omega)
  · rw [if_neg hc]
    simp (disch := omega) only [X_82_0, X_82_1_t, X_82_1_f, X_82_1, X_82_4, X_82_5, X_82_7_t, X_82_7_f, X_82_7, X_82_10, X_82_11, X_82_14, X_82_15, pushR_some, Int.reduceAdd, Int.reduceSub, Int.reduceMul, Int.reduceDiv, Int.reduceMod, Int.reduceNeg, Int.reduceToNat, Int.reduceLT, Int.reduceLE, Int.reduceEq, Nat.reduceAdd, Nat.reduceMul, Nat.reduceEqDiff, reduceIte, or_true, true_or, or_false, false_or, or_self, and_true, true_and, and_false, false_and, not_true_eq_false, not_false_eq_true, ne_eq] <;> (repeat' split) <;> first | rfl | (exfalso; omega)
theorem S_isColour_t {d : Nat} {x : Int} {G : AG} {h : AH} {Q : Option AV → AG → AH → Prop} (hd : (1 ≤ d ∧ (-2147483648 ≤ x ∧ x < 2147483648)) ∧ (0 ≤ x ∧ x < 10)) : call d 82 [.inl x] G h Q = Q (some (.inl 1)) G h := by rw [S_isColour hd.1, if_pos hd.2]
theorem S_isColour_f {d : Nat} {x : Int} {G : AG} {h : AH} {Q : Option AV → AG → AH → Prop} (hd : (1 ≤ d ∧ (-2147483648 ≤ x ∧ x < 2147483648)) ∧ ¬ (0 ≤ x ∧ x < 10)) : call d 82 [.inl x] G h Q = Q (some (.inl 0)) G h := by rw [S_isColour hd.1, if_neg hd.2]
theorem S_isMove {d : Nat} {x : Int} {G : AG} {h : AH} {Q : Option AV → AG → AH → Prop} (hd : 1 ≤ d ∧ (-2147483648 ≤ x ∧ x < 2147483648)) : call d 83 [.inl x] G h Q = if 0 ≤ x ∧ x < 4 then Q (some (.inl 1)) G h else Q (some (.inl 0)) G h := by
  obtain ⟨d, rfl, hd2⟩ := pos_of hd.1
  rw [C_83]
  by_cases hc : 0 ≤ x ∧ x < 4
  · rw [if_pos hc]
    simp (disch := omega) only [X_83_0, X_83_1_t, X_83_1_f, X_83_1, X_83_4, X_83_5, X_83_6_t, X_83_6_f, X_83_6, X_83_9, X_83_10, X_83_13, X_83_14, pushR_some, Int.reduceAdd, Int.reduceSub, Int.reduceMul, Int.reduceDiv, Int.reduceMod, Int.reduceNeg, Int.reduceToNat, Int.reduceLT, Int.reduceLE, Int.reduceEq, Nat.reduceAdd, Nat.reduceMul, Nat.reduceEqDiff, reduceIte, or_true, true_or, or_false, false_or, or_self, and_true, true_and, and_false, false_and, not_true_eq_false, not_false_eq_true, ne_eq] <;> (repeat' split) <;> first | rfl | (exfalso; omega)
  · rw [if_neg hc]
    simp (disch := omega) only [X_83_0, X_83_1_t, X_83_1_f, X_83_1, X_83_4, X_83_5, X_83_6_t, X_83_6_f, X_83_6, X_83_9, X_83_10, X_83_13, X_83_14, pushR_some, Int.reduceAdd, Int.reduceSub, Int.reduceMul, Int.reduceDiv, Int.reduceMod, Int.reduceNeg, Int.reduceToNat, Int.reduceLT, Int.reduceLE, Int.reduceEq, Nat.reduceAdd, Nat.reduceMul, Nat.reduceEqDiff, reduceIte, or_true, true_or, or_false, false_or, or_self, and_true, true_and, and_false, false_and, not_true_eq_false, not_false_eq_true, ne_eq] <;> (repeat' split) <;> first | rfl | (exfalso; omega)
theorem S_isMove_t {d : Nat} {x : Int} {G : AG} {h : AH} {Q : Option AV → AG → AH → Prop} (hd : (1 ≤ d ∧ (-2147483648 ≤ x ∧ x < 2147483648)) ∧ (0 ≤ x ∧ x < 4)) : call d 83 [.inl x] G h Q = Q (some (.inl 1)) G h := by rw [S_isMove hd.1, if_pos hd.2]
theorem S_isMove_f {d : Nat} {x : Int} {G : AG} {h : AH} {Q : Option AV → AG → AH → Prop} (hd : (1 ≤ d ∧ (-2147483648 ≤ x ∧ x < 2147483648)) ∧ ¬ (0 ≤ x ∧ x < 4)) : call d 83 [.inl x] G h Q = Q (some (.inl 0)) G h := by rw [S_isMove hd.1, if_neg hd.2]
theorem S_isWithin {d : Nat} {x : Int} {lo : Int} {hi : Int} {G : AG} {h : AH} {Q : Option AV → AG → AH → Prop} (hd : 1 ≤ d ∧ (-2147483648 ≤ x ∧ x < 2147483648) ∧ (-2147483648 ≤ lo ∧ lo < 2147483648) ∧ (-2147483648 ≤ hi ∧ hi < 2147483648)) : call d 77 [.inl x, .inl lo, .inl hi] G h Q = if lo ≤ x ∧ x ≤ hi then Q (some (.inl 1)) G h else Q (some (.inl 0)) G h := by
  obtain ⟨d, rfl, hd2⟩ := pos_of hd.1
  rw [C_77]
  by_cases hc : lo ≤ x ∧ x ≤ hi
  · rw [if_pos hc]
    simp (disch := omega) only [X_77_0, X_77_1, X_77_2_t, X_77_2_f, X_77_2, X_77_5, X_77_6, X_77_7_t, X_77_7_f, X_77_7, X_77_10, X_77_11, X_77_14, X_77_15, pushR_some, Int.reduceAdd, Int.reduceSub, Int.reduceMul, Int.reduceDiv, Int.reduceMod, Int.reduceNeg, Int.reduceToNat, Int.reduceLT, Int.reduceLE, Int.reduceEq, Nat.reduceAdd, Nat.reduceMul, Nat.reduceEqDiff, reduceIte, or_true, true_or, or_false, false_or, or_self, and_true, true_and, and_false, false_and, not_true_eq_false, not_false_eq_true, ne_eq] <;> (repeat' split) <;> first | rfl | (exfalso; omega)
  · rw [if_neg hc]
    simp (disch := omega) only [X_77_0, X_77_1, X_77_2_t, X_77_2_f, X_77_2, X_77_5, X_77_6, X_77_7_t, X_77_7_f, X_77_7, X_77_10, X_77_11, X_77_14, X_77_15, pushR_some, Int.reduceAdd, Int.reduceSub, Int.reduceMul, Int.reduceDiv, Int.reduceMod, Int.reduceNeg, Int.reduceToNat, Int.reduceLT, Int.reduceLE, Int.reduceEq, Nat.reduceAdd, Nat.reduceMul, Nat.reduceEqDiff, reduceIte, or_true, true_or, or_false, false_or, or_self, and_true, true_and, and_false, false_and, not_true_eq_false, not_false_eq_true, ne_eq] <;> (repeat' split) <;> first | rfl | (exfalso; omega)
theorem S_isWithin_t {d : Nat} {x : Int} {lo : Int} {hi : Int} {G : AG} {h : AH} {Q : Option AV → AG → AH → Prop} (hd : (1 ≤ d ∧ (-2147483648 ≤ x ∧ x < 2147483648) ∧ (-2147483648 ≤ lo ∧ lo < 2147483648) ∧ (-2147483648 ≤ hi ∧ hi < 2147483648)) ∧ (lo ≤ x ∧ x ≤ hi)) : call d 77 [.inl x, .inl lo, .inl hi] G h Q = Q (some (.inl 1)) G h := by rw [S_isWithin hd.1, if_pos hd.2]
theorem S_isWithin_f {d : Nat} {x : Int} {lo : Int} {hi : Int} {G : AG} {h : AH} {Q : Option AV → AG → AH → Prop} (hd : (1 ≤ d ∧ (-2147483648 ≤ x ∧ x < 2147483648) ∧ (-2147483648 ≤ lo ∧ lo < 2147483648) ∧ (-2147483648 ≤ hi ∧ hi < 2147483648)) ∧ ¬ (lo ≤ x ∧ x ≤ hi)) : call d 77 [.inl x, .inl lo, .inl hi] G h Q = Q (some (.inl 0)) G h := by rw [S_isWithin hd.1, if_neg hd.2]
theorem S_isCrossing {d : Nat} {x : Int} {G : AG} {h : AH} {Q : Option AV → AG → AH → Prop} (hd : 1 ≤ d ∧ (-2147483648 ≤ x ∧ x < 2147483648)) : call d 84 [.inl x] G h Q = if x = 0 ∨ x = 4 then Q (some (.inl 1)) G h else Q (some (.inl 0)) G h := by
  obtain ⟨d, rfl, hd2⟩ := pos_of hd.1
  rw [C_84]
  by_cases hc : x = 0 ∨ x = 4
  · rw [if_pos hc]
    simp (disch := omega) only [X_84_0, X_84_1_t, X_84_1_f, X_84_1, X_84_4, X_84_5, X_84_6_t, X_84_6_f, X_84_6, X_84_9, X_84_10, X_84_13, X_84_14, pushR_some, Int.reduceAdd, Int.reduceSub, Int.reduceMul, Int.reduceDiv, Int.reduceMod, Int.reduceNeg, Int.reduceToNat, Int.reduceLT, Int.reduceLE, Int.reduceEq, Nat.reduceAdd, Nat.reduceMul, Nat.reduceEqDiff, reduceIte, or_true, true_or, or_false, false_or, or_self, and_true, true_and, and_false, false_and, not_true_eq_false, not_false_eq_true, ne_eq] <;> (repeat' split) <;> first | rfl | (exfalso; omega)
  · rw [if_neg hc]
    simp (disch := omega) only [X_84_0, X_84_1_t, X_84_1_f, X_84_1, X_84_4, X_84_5, X_84_6_t, X_84_6_f, X_84_6, X_84_9, X_84_10, X_84_13, X_84_14, pushR_some, Int.reduceAdd, Int.reduceSub, Int.reduceMul, Int.reduceDiv, Int.reduceMod, Int.reduceNeg, Int.reduceToNat, Int.reduceLT, Int.reduceLE, Int.reduceEq, Nat.reduceAdd, Nat.reduceMul, Nat.reduceEqDiff, reduceIte, or_true, true_or, or_false, false_or, or_self, and_true, true_and, and_false, false_and, not_true_eq_false, not_false_eq_true, ne_eq] <;> (repeat' split) <;> first | rfl | (exfalso; omega)
theorem S_isCrossing_t {d : Nat} {x : Int} {G : AG} {h : AH} {Q : Option AV → AG → AH → Prop} (hd : (1 ≤ d ∧ (-2147483648 ≤ x ∧ x < 2147483648)) ∧ (x = 0 ∨ x = 4)) : call d 84 [.inl x] G h Q = Q (some (.inl 1)) G h := by rw [S_isCrossing hd.1, if_pos hd.2]
theorem S_isCrossing_f {d : Nat} {x : Int} {G : AG} {h : AH} {Q : Option AV → AG → AH → Prop} (hd : (1 ≤ d ∧ (-2147483648 ≤ x ∧ x < 2147483648)) ∧ ¬ (x = 0 ∨ x = 4)) : call d 84 [.inl x] G h Q = Q (some (.inl 0)) G h := by rw [S_isCrossing hd.1, if_neg hd.2]
theorem S_isOfKind {d : Nat} {x : Int} {y : Int} {G : AG} {h : AH} {Q : Option AV → AG → AH → Prop} (hd : 1 ≤ d ∧ (-2147483648 ≤ x ∧ x < 2147483648) ∧ (-2147483648 ≤ y ∧ y < 2147483648)) : call d 86 [.inl x, .inl y] G h Q = if x = y ∨ y = 0 ∨ (y = 1 ∧ x = 4) ∨ (y = 3 ∧ x = 5) then Q (some (.inl 1)) G h else Q (some (.inl 0)) G h := by
  obtain ⟨d, rfl, hd2⟩ := pos_of hd.1
  rw [C_86]
  by_cases hc : x = y ∨ y = 0 ∨ (y = 1 ∧ x = 4) ∨ (y = 3 ∧ x = 5)
  · rw [if_pos hc]
    simp (disch := omega) only [X_86_0, X_86_1, X_86_2_t, X_86_2_f, X_86_2, X_86_5, X_86_6_t, X_86_6_f, X_86_6, X_86_9, X_86_10, X_86_11_t, X_86_11_f, X_86_11, X_86_14, X_86_15, X_86_16_t, X_86_16_f, X_86_16, X_86_19, X_86_20, X_86_21_t, X_86_21_f, X_86_21, X_86_24, X_86_25, X_86_26_t, X_86_26_f, X_86_26, X_86_29, X_86_30, X_86_33, X_86_34, pushR_some, Int.reduceAdd, Int.reduceSub, Int.reduceMul, Int.reduceDiv, Int.reduceMod, Int.reduceNeg, Int.reduceToNat, Int.reduceLT, Int.reduceLE, Int.reduceEq, Nat.reduceAdd, Nat.reduceMul, Nat.reduceEqDiff, reduceIte, or_true, true_or, or_false, false_or, or_self, and_true, true_and, and_false, false_and, not_true_eq_false, not_false_eq_true, ne_eq] <;> (repeat' split) <;> first | rfl | (exfalso; omega)
  · rw [if_neg hc]
    simp (disch := omega) only [X_86_0, X_86_1, X_86_2_t, X_86_2_f, X_86_2, X_86_5, X_86_6_t, X_86_6_f, X_86_6, X_86_9, X_86_10, X_86_11_t, X_86_11_f, X_86_11, X_86_14, X_86_15, X_86_16_t, X_86_16_f, X_86_16, X_86_19, X_86_20, X_86_21_t, X_86_21_f, X_86_21, X_86_24, X_86_25, X_86_26_t, X_86_26_f, X_86_26, X_86_29, X_86_30, X_86_33, X_86_34, pushR_some, Int.reduceAdd, Int.reduceSub, Int.reduceMul, Int.reduceDiv, Int.reduceMod, Int.reduceNeg, Int.reduceToNat, Int.reduceLT, Int.reduceLE, Int.reduceEq, Nat.reduceAdd, Nat.reduceMul, Nat.reduceEqDiff, reduceIte, or_true, true_or, or_false, false_or, or_self, and_true, true_and, and_false, false_and, not_true_eq_false, not_false_eq_true, ne_eq] <;> (repeat' split) <;> first | rfl | (exfalso; omega)
theorem S_isOfKind_t {d : Nat} {x : Int} {y : Int} {G : AG} {h : AH} {Q : Option AV → AG → AH → Prop} (hd : (1 ≤ d ∧ (-2147483648 ≤ x ∧ x < 2147483648) ∧ (-2147483648 ≤ y ∧ y < 2147483648)) ∧ (x = y ∨ y = 0 ∨ (y = 1 ∧ x = 4) ∨ (y = 3 ∧ x = 5))) : call d 86 [.inl x, .inl y] G h Q = Q (some (.inl 1)) G h := by rw [S_isOfKind hd.1, if_pos hd.2]
theorem S_isOfKind_f {d : Nat} {x : Int} {y : Int} {G : AG} {h : AH} {Q : Option AV → AG → AH → Prop} (hd : (1 ≤ d ∧ (-2147483648 ≤ x ∧ x < 2147483648) ∧ (-2147483648 ≤ y ∧ y < 2147483648)) ∧ ¬ (x = y ∨ y = 0 ∨ (y = 1 ∧ x = 4) ∨ (y = 3 ∧ x = 5))) : call d 86 [.inl x, .inl y] G h Q = Q (some (.inl 0)) G h := by rw [S_isOfKind hd.1, if_neg hd.2]
theorem lc1 {x y : Int} (h : x < y) : (if x = y then (0 : Int) else if y < x then 1 else -1) = -1 := by rw [if_neg (by omega), if_neg (by omega)]
theorem lc2 {x y : Int} (h : y < x) : (if x = y then (0 : Int) else if y < x then 1 else -1) = 1 := by rw [if_neg (by omega), if_pos h]
theorem lc0 {x y : Int} (h : x = y) : (if x = y then (0 : Int) else if y < x then 1 else -1) = 0 := by rw [if_pos h]
theorem S3_in {d : Nat} {x lo hi : Int} {G : AG} {h : AH} {Q : Option AV → AG → AH → Prop} (hd : 1 ≤ d ∧ (-9223372036854775808 ≤ x ∧ x < 9223372036854775808) ∧ (-9223372036854775808 ≤ lo ∧ lo < 9223372036854775808) ∧ (-9223372036854775808 ≤ hi ∧ hi < 9223372036854775808)) : call d 119 [.inr (.inl x), .inr (.inl lo), .inr (.inl hi)] G h Q = if lo ≤ x ∧ x ≤ hi then Q (some (.inl 1)) G h else Q (some (.inl 0)) G h := by
  obtain ⟨d, rfl, hd2⟩ := pos_of hd.1
  rw [C_119]
  rcases Int.lt_trichotomy x lo with e | e | e <;> rcases Int.lt_trichotomy x hi with e2 | e2 | e2 <;> (first | rw [if_pos (by omega)] | rw [if_neg (by omega)]) <;> simp (disch := omega) only [X_119_0, X_119_1, X_119_2, X_119_3_t, X_119_3_f, X_119_3, X_119_6, X_119_7, X_119_9, X_119_10_t, X_119_10_f, X_119_10, X_119_13, X_119_14, X_119_17, X_119_18, lc0, lc1, lc2, Int.reduceAdd, Int.reduceSub, Int.reduceMul, Int.reduceDiv, Int.reduceMod, Int.reduceNeg, Int.reduceToNat, Int.reduceLT, Int.reduceLE, Int.reduceEq, Nat.reduceAdd, Nat.reduceMul, Nat.reduceEqDiff, reduceIte, or_true, true_or, or_false, false_or, or_self, and_true, true_and, and_false, false_and, not_true_eq_false, not_false_eq_true, ne_eq]
theorem S3_in_t {d : Nat} {x lo hi : Int} {G : AG} {h : AH} {Q : Option AV → AG → AH → Prop} (hd : (1 ≤ d ∧ (-9223372036854775808 ≤ x ∧ x < 9223372036854775808) ∧ (-9223372036854775808 ≤ lo ∧ lo < 9223372036854775808) ∧ (-9223372036854775808 ≤ hi ∧ hi < 9223372036854775808)) ∧ (lo ≤ x ∧ x ≤ hi)) : call d 119 [.inr (.inl x), .inr (.inl lo), .inr (.inl hi)] G h Q = Q (some (.inl 1)) G h := by rw [S3_in hd.1, if_pos hd.2]
theorem S3_in_f {d : Nat} {x lo hi : Int} {G : AG} {h : AH} {Q : Option AV → AG → AH → Prop} (hd : (1 ≤ d ∧ (-9223372036854775808 ≤ x ∧ x < 9223372036854775808) ∧ (-9223372036854775808 ≤ lo ∧ lo < 9223372036854775808) ∧ (-9223372036854775808 ≤ hi ∧ hi < 9223372036854775808)) ∧ ¬ (lo ≤ x ∧ x ≤ hi)) : call d 119 [.inr (.inl x), .inr (.inl lo), .inr (.inl hi)] G h Q = Q (some (.inl 0)) G h := by rw [S3_in hd.1, if_neg hd.2]
theorem S3_isRow {d : Nat} {x : Int} {G : AG} {h : AH} {Q : Option AV → AG → AH → Prop} (hd : 2 ≤ d ∧ (-2147483648 ≤ x ∧ x < 2147483648)) : call d 122 [.inl x] G h Q = if 0 ≤ x ∧ x < 6 then Q (some (.inl 1)) G h else Q (some (.inl 0)) G h := by
  obtain ⟨d, rfl, hd2⟩ := pos_of hd.1
  rw [C_122]
  by_cases hc : 0 ≤ x ∧ x < 6
  · rw [if_pos hc]
    simp (disch := omega) only [X_122_0, X_122_1, X_122_2, X_122_3, X_122_6, X_122_9, S3_in_t, S3_in_f, S3_in, pushR_some, Int.reduceAdd, Int.reduceSub, Int.reduceMul, Int.reduceDiv, Int.reduceMod, Int.reduceNeg, Int.reduceToNat, Int.reduceLT, Int.reduceLE, Int.reduceEq, Nat.reduceAdd, Nat.reduceMul, Nat.reduceEqDiff, reduceIte, or_true, true_or, or_false, false_or, or_self, and_true, true_and, and_false, false_and, not_true_eq_false, not_false_eq_true, ne_eq] <;> (repeat' split) <;> first | rfl | (exfalso; omega)
  · rw [if_neg hc]
    simp (disch := omega) only [X_122_0, X_122_1, X_122_2, X_122_3, X_122_6, X_122_9, S3_in_t, S3_in_f, S3_in, pushR_some, Int.reduceAdd, Int.reduceSub, Int.reduceMul, Int.reduceDiv, Int.reduceMod, Int.reduceNeg, Int.reduceToNat, Int.reduceLT, Int.reduceLE, Int.reduceEq, Nat.reduceAdd, Nat.reduceMul, Nat.reduceEqDiff, reduceIte, or_true, true_or, or_false, false_or, or_self, and_true, true_and, and_false, false_and, not_true_eq_false, not_false_eq_true, ne_eq] <;> (repeat' split) <;> first | rfl | (exfalso; omega)
theorem S3_isRow_t {d : Nat} {x : Int} {G : AG} {h : AH} {Q : Option AV → AG → AH → Prop} (hd : (2 ≤ d ∧ (-2147483648 ≤ x ∧ x < 2147483648)) ∧ (0 ≤ x ∧ x < 6)) : call d 122 [.inl x] G h Q = Q (some (.inl 1)) G h := by rw [S3_isRow hd.1, if_pos hd.2]
theorem S3_isRow_f {d : Nat} {x : Int} {G : AG} {h : AH} {Q : Option AV → AG → AH → Prop} (hd : (2 ≤ d ∧ (-2147483648 ≤ x ∧ x < 2147483648)) ∧ ¬ (0 ≤ x ∧ x < 6)) : call d 122 [.inl x] G h Q = Q (some (.inl 0)) G h := by rw [S3_isRow hd.1, if_neg hd.2]
theorem S3_isText {d : Nat} {x : Int} {G : AG} {h : AH} {Q : Option AV → AG → AH → Prop} (hd : 2 ≤ d ∧ (-2147483648 ≤ x ∧ x < 2147483648)) : call d 123 [.inl x] G h Q = if 0 ≤ x ∧ x < 4 then Q (some (.inl 1)) G h else Q (some (.inl 0)) G h := by
  obtain ⟨d, rfl, hd2⟩ := pos_of hd.1
  rw [C_123]
  by_cases hc : 0 ≤ x ∧ x < 4
  · rw [if_pos hc]
    simp (disch := omega) only [X_123_0, X_123_1, X_123_2, X_123_3, X_123_6, X_123_9, S3_in_t, S3_in_f, S3_in, pushR_some, Int.reduceAdd, Int.reduceSub, Int.reduceMul, Int.reduceDiv, Int.reduceMod, Int.reduceNeg, Int.reduceToNat, Int.reduceLT, Int.reduceLE, Int.reduceEq, Nat.reduceAdd, Nat.reduceMul, Nat.reduceEqDiff, reduceIte, or_true, true_or, or_false, false_or, or_self, and_true, true_and, and_false, false_and, not_true_eq_false, not_false_eq_true, ne_eq] <;> (repeat' split) <;> first | rfl | (exfalso; omega)
  · rw [if_neg hc]
    simp (disch := omega) only [X_123_0, X_123_1, X_123_2, X_123_3, X_123_6, X_123_9, S3_in_t, S3_in_f, S3_in, pushR_some, Int.reduceAdd, Int.reduceSub, Int.reduceMul, Int.reduceDiv, Int.reduceMod, Int.reduceNeg, Int.reduceToNat, Int.reduceLT, Int.reduceLE, Int.reduceEq, Nat.reduceAdd, Nat.reduceMul, Nat.reduceEqDiff, reduceIte, or_true, true_or, or_false, false_or, or_self, and_true, true_and, and_false, false_and, not_true_eq_false, not_false_eq_true, ne_eq] <;> (repeat' split) <;> first | rfl | (exfalso; omega)
theorem S3_isText_t {d : Nat} {x : Int} {G : AG} {h : AH} {Q : Option AV → AG → AH → Prop} (hd : (2 ≤ d ∧ (-2147483648 ≤ x ∧ x < 2147483648)) ∧ (0 ≤ x ∧ x < 4)) : call d 123 [.inl x] G h Q = Q (some (.inl 1)) G h := by rw [S3_isText hd.1, if_pos hd.2]
theorem S3_isText_f {d : Nat} {x : Int} {G : AG} {h : AH} {Q : Option AV → AG → AH → Prop} (hd : (2 ≤ d ∧ (-2147483648 ≤ x ∧ x < 2147483648)) ∧ ¬ (0 ≤ x ∧ x < 4)) : call d 123 [.inl x] G h Q = Q (some (.inl 0)) G h := by rw [S3_isText hd.1, if_neg hd.2]
theorem S3_isCell {d : Nat} {x : Int} {G : AG} {h : AH} {Q : Option AV → AG → AH → Prop} (hd : 2 ≤ d ∧ (-2147483648 ≤ x ∧ x < 2147483648)) : call d 152 [.inl x] G h Q = if 0 ≤ x ∧ x < 14 then Q (some (.inl 1)) G h else Q (some (.inl 0)) G h := by
  obtain ⟨d, rfl, hd2⟩ := pos_of hd.1
  rw [C_152]
  by_cases hc : 0 ≤ x ∧ x < 14
  · rw [if_pos hc]
    simp (disch := omega) only [X_152_0, X_152_1, X_152_2, X_152_3, X_152_6, X_152_9, S3_in_t, S3_in_f, S3_in, pushR_some, Int.reduceAdd, Int.reduceSub, Int.reduceMul, Int.reduceDiv, Int.reduceMod, Int.reduceNeg, Int.reduceToNat, Int.reduceLT, Int.reduceLE, Int.reduceEq, Nat.reduceAdd, Nat.reduceMul, Nat.reduceEqDiff, reduceIte, or_true, true_or, or_false, false_or, or_self, and_true, true_and, and_false, false_and, not_true_eq_false, not_false_eq_true, ne_eq] <;> (repeat' split) <;> first | rfl | (exfalso; omega)
  · rw [if_neg hc]
    simp (disch := omega) only [X_152_0, X_152_1, X_152_2, X_152_3, X_152_6, X_152_9, S3_in_t, S3_in_f, S3_in, pushR_some, Int.reduceAdd, Int.reduceSub, Int.reduceMul, Int.reduceDiv, Int.reduceMod, Int.reduceNeg, Int.reduceToNat, Int.reduceLT, Int.reduceLE, Int.reduceEq, Nat.reduceAdd, Nat.reduceMul, Nat.reduceEqDiff, reduceIte, or_true, true_or, or_false, false_or, or_self, and_true, true_and, and_false, false_and, not_true_eq_false, not_false_eq_true, ne_eq] <;> (repeat' split) <;> first | rfl | (exfalso; omega)
theorem S3_isCell_t {d : Nat} {x : Int} {G : AG} {h : AH} {Q : Option AV → AG → AH → Prop} (hd : (2 ≤ d ∧ (-2147483648 ≤ x ∧ x < 2147483648)) ∧ (0 ≤ x ∧ x < 14)) : call d 152 [.inl x] G h Q = Q (some (.inl 1)) G h := by rw [S3_isCell hd.1, if_pos hd.2]
theorem S3_isCell_f {d : Nat} {x : Int} {G : AG} {h : AH} {Q : Option AV → AG → AH → Prop} (hd : (2 ≤ d ∧ (-2147483648 ≤ x ∧ x < 2147483648)) ∧ ¬ (0 ≤ x ∧ x < 14)) : call d 152 [.inl x] G h Q = Q (some (.inl 0)) G h := by rw [S3_isCell hd.1, if_neg hd.2]
theorem S3_isMove {d : Nat} {x : Int} {G : AG} {h : AH} {Q : Option AV → AG → AH → Prop} (hd : 2 ≤ d ∧ (-2147483648 ≤ x ∧ x < 2147483648)) : call d 153 [.inl x] G h Q = if 0 ≤ x ∧ x < 4 then Q (some (.inl 1)) G h else Q (some (.inl 0)) G h := by
  obtain ⟨d, rfl, hd2⟩ := pos_of hd.1
  rw [C_153]
  by_cases hc : 0 ≤ x ∧ x < 4
  · rw [if_pos hc]
    simp (disch := omega) only [X_153_0, X_153_1, X_153_2, X_153_3, X_153_6, X_153_9, S3_in_t, S3_in_f, S3_in, pushR_some, Int.reduceAdd, Int.reduceSub, Int.reduceMul, Int.reduceDiv, Int.reduceMod, Int.reduceNeg, Int.reduceToNat, Int.reduceLT, Int.reduceLE, Int.reduceEq, Nat.reduceAdd, Nat.reduceMul, Nat.reduceEqDiff, reduceIte, or_true, true_or, or_false, false_or, or_self, and_true, true_and, and_false, false_and, not_true_eq_false, not_false_eq_true, ne_eq] <;> (repeat' split) <;> first | rfl | (exfalso; omega)
  · rw [if_neg hc]
    simp (disch := omega) only [X_153_0, X_153_1, X_153_2, X_153_3, X_153_6, X_153_9, S3_in_t, S3_in_f, S3_in, pushR_some, Int.reduceAdd, Int.reduceSub, Int.reduceMul, Int.reduceDiv, Int.reduceMod, Int.reduceNeg, Int.reduceToNat, Int.reduceLT, Int.reduceLE, Int.reduceEq, Nat.reduceAdd, Nat.reduceMul, Nat.reduceEqDiff, reduceIte, or_true, true_or, or_false, false_or, or_self, and_true, true_and, and_false, false_and, not_true_eq_false, not_false_eq_true, ne_eq] <;> (repeat' split) <;> first | rfl | (exfalso; omega)
theorem S3_isMove_t {d : Nat} {x : Int} {G : AG} {h : AH} {Q : Option AV → AG → AH → Prop} (hd : (2 ≤ d ∧ (-2147483648 ≤ x ∧ x < 2147483648)) ∧ (0 ≤ x ∧ x < 4)) : call d 153 [.inl x] G h Q = Q (some (.inl 1)) G h := by rw [S3_isMove hd.1, if_pos hd.2]
theorem S3_isMove_f {d : Nat} {x : Int} {G : AG} {h : AH} {Q : Option AV → AG → AH → Prop} (hd : (2 ≤ d ∧ (-2147483648 ≤ x ∧ x < 2147483648)) ∧ ¬ (0 ≤ x ∧ x < 4)) : call d 153 [.inl x] G h Q = Q (some (.inl 0)) G h := by rw [S3_isMove hd.1, if_neg hd.2]
theorem S3_isColour {d : Nat} {x : Int} {G : AG} {h : AH} {Q : Option AV → AG → AH → Prop} (hd : 2 ≤ d ∧ (-2147483648 ≤ x ∧ x < 2147483648)) : call d 154 [.inl x] G h Q = if 0 ≤ x ∧ x < 10 then Q (some (.inl 1)) G h else Q (some (.inl 0)) G h := by
  obtain ⟨d, rfl, hd2⟩ := pos_of hd.1
  rw [C_154]
  by_cases hc : 0 ≤ x ∧ x < 10
  · rw [if_pos hc]
    simp (disch := omega) only [X_154_0, X_154_1, X_154_2, X_154_3, X_154_6, X_154_9, S3_in_t, S3_in_f, S3_in, pushR_some, Int.reduceAdd, Int.reduceSub, Int.reduceMul, Int.reduceDiv, Int.reduceMod, Int.reduceNeg, Int.reduceToNat, Int.reduceLT, Int.reduceLE, Int.reduceEq, Nat.reduceAdd, Nat.reduceMul, Nat.reduceEqDiff, reduceIte, or_true, true_or, or_false, false_or, or_self, and_true, true_and, and_false, false_and, not_true_eq_false, not_false_eq_true, ne_eq] <;> (repeat' split) <;> first | rfl | (exfalso; omega)
  · rw [if_neg hc]
    simp (disch := omega) only [X_154_0, X_154_1, X_154_2, X_154_3, X_154_6, X_154_9, S3_in_t, S3_in_f, S3_in, pushR_some, Int.reduceAdd, Int.reduceSub, Int.reduceMul, Int.reduceDiv, Int.reduceMod, Int.reduceNeg, Int.reduceToNat, Int.reduceLT, Int.reduceLE, Int.reduceEq, Nat.reduceAdd, Nat.reduceMul, Nat.reduceEqDiff, reduceIte, or_true, true_or, or_false, false_or, or_self, and_true, true_and, and_false, false_and, not_true_eq_false, not_false_eq_true, ne_eq] <;> (repeat' split) <;> first | rfl | (exfalso; omega)
theorem S3_isColour_t {d : Nat} {x : Int} {G : AG} {h : AH} {Q : Option AV → AG → AH → Prop} (hd : (2 ≤ d ∧ (-2147483648 ≤ x ∧ x < 2147483648)) ∧ (0 ≤ x ∧ x < 10)) : call d 154 [.inl x] G h Q = Q (some (.inl 1)) G h := by rw [S3_isColour hd.1, if_pos hd.2]
theorem S3_isColour_f {d : Nat} {x : Int} {G : AG} {h : AH} {Q : Option AV → AG → AH → Prop} (hd : (2 ≤ d ∧ (-2147483648 ≤ x ∧ x < 2147483648)) ∧ ¬ (0 ≤ x ∧ x < 10)) : call d 154 [.inl x] G h Q = Q (some (.inl 0)) G h := by rw [S3_isColour hd.1, if_neg hd.2]
theorem S3_isCrossing {d : Nat} {x : Int} {G : AG} {h : AH} {Q : Option AV → AG → AH → Prop} (hd : 1 ≤ d ∧ (-2147483648 ≤ x ∧ x < 2147483648)) : call d 141 [.inl x] G h Q = if x = 0 ∨ x = 4 then Q (some (.inl 1)) G h else Q (some (.inl 0)) G h := by
  obtain ⟨d, rfl, hd2⟩ := pos_of hd.1
  rw [C_141]
  by_cases hc : x = 0 ∨ x = 4
  · rw [if_pos hc]
    simp (disch := omega) only [X_141_0, X_141_1_t, X_141_1_f, X_141_1, X_141_4, X_141_5, X_141_6_t, X_141_6_f, X_141_6, X_141_9, X_141_10, X_141_13, X_141_14, pushR_some, Int.reduceAdd, Int.reduceSub, Int.reduceMul, Int.reduceDiv, Int.reduceMod, Int.reduceNeg, Int.reduceToNat, Int.reduceLT, Int.reduceLE, Int.reduceEq, Nat.reduceAdd, Nat.reduceMul, Nat.reduceEqDiff, reduceIte, or_true, true_or, or_false, false_or, or_self, and_true, true_and, and_false, false_and, not_true_eq_false, not_false_eq_true, ne_eq] <;> (repeat' split) <;> first | rfl | (exfalso; omega)
  · rw [if_neg hc]
    simp (disch := omega) only [X_141_0, X_141_1_t, X_141_1_f, X_141_1, X_141_4, X_141_5, X_141_6_t, X_141_6_f, X_141_6, X_141_9, X_141_10, X_141_13, X_141_14, pushR_some, Int.reduceAdd, Int.reduceSub, Int.reduceMul, Int.reduceDiv, Int.reduceMod, Int.reduceNeg, Int.reduceToNat, Int.reduceLT, Int.reduceLE, Int.reduceEq, Nat.reduceAdd, Nat.reduceMul, Nat.reduceEqDiff, reduceIte, or_true, true_or, or_false, false_or, or_self, and_true, true_and, and_false, false_and, not_true_eq_false, not_false_eq_true, ne_eq] <;> (repeat' split) <;> first | rfl | (exfalso; omega)
theorem S3_isCrossing_t {d : Nat} {x : Int} {G : AG} {h : AH} {Q : Option AV → AG → AH → Prop} (hd : (1 ≤ d ∧ (-2147483648 ≤ x ∧ x < 2147483648)) ∧ (x = 0 ∨ x = 4)) : call d 141 [.inl x] G h Q = Q (some (.inl 1)) G h := by rw [S3_isCrossing hd.1, if_pos hd.2]
theorem S3_isCrossing_f {d : Nat} {x : Int} {G : AG} {h : AH} {Q : Option AV → AG → AH → Prop} (hd : (1 ≤ d ∧ (-2147483648 ≤ x ∧ x < 2147483648)) ∧ ¬ (x = 0 ∨ x = 4)) : call d 141 [.inl x] G h Q = Q (some (.inl 0)) G h := by rw [S3_isCrossing hd.1, if_neg hd.2]
theorem S3_isStuck {d : Nat} {x : Int} {G : AG} {h : AH} {Q : Option AV → AG → AH → Prop} (hd : 1 ≤ d ∧ (-2147483648 ≤ x ∧ x < 2147483648)) : call d 139 [.inl x] G h Q = if x = 3 ∨ x = 5 then Q (some (.inl 1)) G h else Q (some (.inl 0)) G h := by
  obtain ⟨d, rfl, hd2⟩ := pos_of hd.1
  rw [C_139]
  by_cases hc : x = 3 ∨ x = 5
  · rw [if_pos hc]
    simp (disch := omega) only [X_139_0, X_139_1, X_139_2_t, X_139_2_f, X_139_2, X_139_5, X_139_6, X_139_7_t, X_139_7_f, X_139_7, X_139_10, X_139_11, X_139_14, X_139_15, pushR_some, Int.reduceAdd, Int.reduceSub, Int.reduceMul, Int.reduceDiv, Int.reduceMod, Int.reduceNeg, Int.reduceToNat, Int.reduceLT, Int.reduceLE, Int.reduceEq, Nat.reduceAdd, Nat.reduceMul, Nat.reduceEqDiff, reduceIte, or_true, true_or, or_false, false_or, or_self, and_true, true_and, and_false, false_and, not_true_eq_false, not_false_eq_true, ne_eq] <;> (repeat' split) <;> first | rfl | (exfalso; omega)
  · rw [if_neg hc]
    simp (disch := omega) only [X_139_0, X_139_1, X_139_2_t, X_139_2_f, X_139_2, X_139_5, X_139_6, X_139_7_t, X_139_7_f, X_139_7, X_139_10, X_139_11, X_139_14, X_139_15, pushR_some, Int.reduceAdd, Int.reduceSub, Int.reduceMul, Int.reduceDiv, Int.reduceMod, Int.reduceNeg, Int.reduceToNat, Int.reduceLT, Int.reduceLE, Int.reduceEq, Nat.reduceAdd, Nat.reduceMul, Nat.reduceEqDiff, reduceIte, or_true, true_or, or_false, false_or, or_self, and_true, true_and, and_false, false_and, not_true_eq_false, not_false_eq_true, ne_eq] <;> (repeat' split) <;> first | rfl | (exfalso; omega)
theorem S3_isStuck_t {d : Nat} {x : Int} {G : AG} {h : AH} {Q : Option AV → AG → AH → Prop} (hd : (1 ≤ d ∧ (-2147483648 ≤ x ∧ x < 2147483648)) ∧ (x = 3 ∨ x = 5)) : call d 139 [.inl x] G h Q = Q (some (.inl 1)) G h := by rw [S3_isStuck hd.1, if_pos hd.2]
theorem S3_isStuck_f {d : Nat} {x : Int} {G : AG} {h : AH} {Q : Option AV → AG → AH → Prop} (hd : (1 ≤ d ∧ (-2147483648 ≤ x ∧ x < 2147483648)) ∧ ¬ (x = 3 ∨ x = 5)) : call d 139 [.inl x] G h Q = Q (some (.inl 0)) G h := by rw [S3_isStuck hd.1, if_neg hd.2]
theorem S3_isOf {d : Nat} {x : Int} {y : Int} {G : AG} {h : AH} {Q : Option AV → AG → AH → Prop} (hd : 1 ≤ d ∧ (-2147483648 ≤ x ∧ x < 2147483648) ∧ (-2147483648 ≤ y ∧ y < 2147483648)) : call d 157 [.inl x, .inl y] G h Q = if x = y ∨ (y = 1 ∧ x = 4) ∨ (y = 3 ∧ x = 5) then Q (some (.inl 1)) G h else Q (some (.inl 0)) G h := by
  obtain ⟨d, rfl, hd2⟩ := pos_of hd.1
  rw [C_157]
  by_cases hc : x = y ∨ (y = 1 ∧ x = 4) ∨ (y = 3 ∧ x = 5)
  · rw [if_pos hc]
    simp (disch := omega) only [X_157_0, X_157_1, X_157_2_t, X_157_2_f, X_157_2, X_157_5, X_157_6, X_157_7_t, X_157_7_f, X_157_7, X_157_10, X_157_11, X_157_12_t, X_157_12_f, X_157_12, X_157_15, X_157_16, X_157_17_t, X_157_17_f, X_157_17, X_157_20, X_157_21, X_157_22_t, X_157_22_f, X_157_22, X_157_25, X_157_26, X_157_29, X_157_30, pushR_some, Int.reduceAdd, Int.reduceSub, Int.reduceMul, Int.reduceDiv, Int.reduceMod, Int.reduceNeg, Int.reduceToNat, Int.reduceLT, Int.reduceLE, Int.reduceEq, Nat.reduceAdd, Nat.reduceMul, Nat.reduceEqDiff, reduceIte, or_true, true_or, or_false, false_or, or_self, and_true, true_and, and_false, false_and, not_true_eq_false, not_false_eq_true, ne_eq] <;> (repeat' split) <;> first | rfl | (exfalso; omega)
  · rw [if_neg hc]
    simp (disch := omega) only [X_157_0, X_157_1, X_157_2_t, X_157_2_f, X_157_2, X_157_5, X_157_6, X_157_7_t, X_157_7_f, X_157_7, X_157_10, X_157_11, X_157_12_t, X_157_12_f, X_157_12, X_157_15, X_157_16, X_157_17_t, X_157_17_f, X_157_17, X_157_20, X_157_21, X_157_22_t, X_157_22_f, X_157_22, X_157_25, X_157_26, X_157_29, X_157_30, pushR_some, Int.reduceAdd, Int.reduceSub, Int.reduceMul, Int.reduceDiv, Int.reduceMod, Int.reduceNeg, Int.reduceToNat, Int.reduceLT, Int.reduceLE, Int.reduceEq, Nat.reduceAdd, Nat.reduceMul, Nat.reduceEqDiff, reduceIte, or_true, true_or, or_false, false_or, or_self, and_true, true_and, and_false, false_and, not_true_eq_false, not_false_eq_true, ne_eq] <;> (repeat' split) <;> first | rfl | (exfalso; omega)
theorem S3_isOf_t {d : Nat} {x : Int} {y : Int} {G : AG} {h : AH} {Q : Option AV → AG → AH → Prop} (hd : (1 ≤ d ∧ (-2147483648 ≤ x ∧ x < 2147483648) ∧ (-2147483648 ≤ y ∧ y < 2147483648)) ∧ (x = y ∨ (y = 1 ∧ x = 4) ∨ (y = 3 ∧ x = 5))) : call d 157 [.inl x, .inl y] G h Q = Q (some (.inl 1)) G h := by rw [S3_isOf hd.1, if_pos hd.2]
theorem S3_isOf_f {d : Nat} {x : Int} {y : Int} {G : AG} {h : AH} {Q : Option AV → AG → AH → Prop} (hd : (1 ≤ d ∧ (-2147483648 ≤ x ∧ x < 2147483648) ∧ (-2147483648 ≤ y ∧ y < 2147483648)) ∧ ¬ (x = y ∨ (y = 1 ∧ x = 4) ∨ (y = 3 ∧ x = 5))) : call d 157 [.inl x, .inl y] G h Q = Q (some (.inl 0)) G h := by rw [S3_isOf hd.1, if_neg hd.2]
theorem S_beadIn {d t : Nat} {c : Int} {h : AH} {Q : Option AV → AG → AH → Prop} (hd : 1 ≤ d) (ht : isToy t) (hc : 0 ≤ c ∧ c < 14) : call d 16 [.inr (.inr (some t)), .inl c] G1 h Q = Q (some (.inl (h (t + 5) c.toNat))) G1 h := by
  obtain ⟨d, rfl, -⟩ := pos_of hd
  have hs := toy_s ht
  have hr := toy_r ht
  rw [C_16]
  simp (disch := omega) only [X_16_0, X_16_1_t, X_16_1_f, X_16_1, X_16_4, X_16_5, X_16_7_t, X_16_7_f, X_16_7, X_16_10, X_16_11, X_16_14, X_16_15, X_16_16, X_16_19, X_16_20, hr]
theorem S_ringCell {d : Nat} {k : Int} {G : AG} {h : AH} {Q : Option AV → AG → AH → Prop} (hd : 1 ≤ d) (hk : 0 ≤ k ∧ k < 16) : call d 28 [.inl k] G h Q = Q (some (.inl (h 1000 k.toNat))) G h := by
  obtain ⟨d, rfl, -⟩ := pos_of hd
  rw [C_28]
  simp (disch := omega) only [X_28_0, X_28_1_t, X_28_1_f, X_28_1, X_28_4, X_28_5, X_28_8, X_28_9_t, X_28_9_f, X_28_9, X_28_12, X_28_15, X_28_16, X_28_17, X_28_20, X_28_21]
theorem S_lieIn {d t : Nat} {c i : Int} {h : AH} {Q : Option AV → AG → AH → Prop} (hd : 1 ≤ d) (ht : isToy t) (hc : 0 ≤ c ∧ c < 14) (hi : 0 ≤ i ∧ i < 14) : call d 17 [.inr (.inr (some t)), .inl c, .inl i] G1 h Q = Q none G1 (put (put h (t + 5) c.toNat i) (t + 3) i.toNat c) := by
  obtain ⟨d, rfl, -⟩ := pos_of hd
  have hs := toy_s ht
  have hr := toy_r ht
  rw [C_17]
  simp (disch := omega) only [X_17_0, X_17_1_t, X_17_1_f, X_17_1, X_17_4, X_17_5, X_17_7_t, X_17_7_f, X_17_7, X_17_10, X_17_11_t, X_17_11_f, X_17_11, X_17_14, X_17_15, X_17_17_t, X_17_17_f, X_17_17, X_17_20, X_17_21, X_17_24, X_17_25, X_17_26, X_17_27, X_17_28, X_17_31, X_17_32, X_17_33, X_17_34, hr]
theorem S_max {d : Nat} {x y : Int} {G : AG} {h : AH} {Q : Option AV → AG → AH → Prop} (hd : 1 ≤ d ∧ (-2147483648 ≤ x ∧ x < 2147483648) ∧ (-2147483648 ≤ y ∧ y < 2147483648)) : call d 207 [.inl x, .inl y] G h Q = Q (some (.inl (if x < y then y else x))) G h := by
  obtain ⟨d, rfl, -⟩ := pos_of hd.1
  rw [C_207]
  by_cases e : x < y
  · simp (disch := omega) only [X_207_0, X_207_1, X_207_2_t, X_207_2_f, X_207_2, X_207_5, X_207_6, X_207_9, X_207_10, e, reduceIte]
  · simp (disch := omega) only [X_207_0, X_207_1, X_207_2_t, X_207_2_f, X_207_2, X_207_5, X_207_6, X_207_9, X_207_10, e, reduceIte]
theorem S_min {d : Nat} {x y : Int} {G : AG} {h : AH} {Q : Option AV → AG → AH → Prop} (hd : 1 ≤ d ∧ (-2147483648 ≤ x ∧ x < 2147483648) ∧ (-2147483648 ≤ y ∧ y < 2147483648)) : call d 209 [.inl x, .inl y] G h Q = Q (some (.inl (if y < x then y else x))) G h := by
  obtain ⟨d, rfl, -⟩ := pos_of hd.1
  rw [C_209]
  by_cases e : y < x
  · simp (disch := omega) only [X_209_0, X_209_1, X_209_2_t, X_209_2_f, X_209_2, X_209_5, X_209_6, X_209_9, X_209_10, e, reduceIte]
  · simp (disch := omega) only [X_209_0, X_209_1, X_209_2_t, X_209_2_f, X_209_2, X_209_5, X_209_6, X_209_9, X_209_10, e, reduceIte]
/-- what a bead shows -/
def sh (k cl c b t : Int) : Int := if k = 1 then (cl + b) % 10 else if k = 2 then (if cl > t / 4 then cl - t / 4 else 0) else if k = 4 then (if c = 0 ∨ c = 4 then 0 else (cl + b) % 10) else cl
theorem S_shown {d : Nat} {k cl c b t : Int} {G : AG} {h : AH} {Q : Option AV → AG → AH → Prop} (hd : 2 ≤ d ∧ (-2147483648 ≤ k ∧ k < 2147483648) ∧ (0 ≤ cl ∧ cl < 1000000) ∧ (-2147483648 ≤ c ∧ c < 2147483648) ∧ (0 ≤ b ∧ b < 1000000) ∧ (0 ≤ t ∧ t < 1000000)) : call d 93 [.inl k, .inl cl, .inl c, .inl b, .inl t] G h Q = Q (some (.inl (sh k cl c b t))) G h := by
  obtain ⟨d, rfl, -⟩ := pos_of hd.1
  rw [C_93]
  unfold sh
  by_cases e1 : k = 1
  · subst e1
    simp (disch := omega) only [X_93_0, X_93_1, X_93_32, X_93_33, X_93_34, X_93_35, X_93_37, X_93_38, X_93_39, X_93_40, X_93_41, X_93_43, X_93_44, X_93_45, X_93_46, X_93_49, X_93_50, X_93_51, X_93_54_t, X_93_54_f, X_93_54, X_93_57, X_93_58, X_93_61, X_93_62, X_93_63, X_93_64, X_93_66, X_93_67, X_93_68, X_93_69, Int.reduceAdd, Int.reduceSub, Int.reduceMul, Int.reduceDiv, Int.reduceMod, Int.reduceNeg, Int.reduceToNat, Int.reduceLT, Int.reduceLE, Int.reduceEq, Nat.reduceAdd, Nat.reduceMul, Nat.reduceEqDiff, reduceIte, or_true, true_or, or_false, false_or, or_self, and_true, true_and, and_false, false_and, not_true_eq_false, not_false_eq_true, ne_eq]
  by_cases e2 : k = 2
  · subst e2
    simp (disch := omega) only [X_93_0, X_93_1, X_93_32, X_93_33, X_93_34, X_93_35, X_93_37, X_93_38, X_93_39, X_93_40, X_93_41, X_93_43, X_93_44, X_93_45, X_93_46, X_93_49, X_93_50, X_93_51, X_93_54_t, X_93_54_f, X_93_54, X_93_57, X_93_58, X_93_61, X_93_62, X_93_63, X_93_64, X_93_66, X_93_67, X_93_68, X_93_69, S_max, pushR_some, Int.reduceAdd, Int.reduceSub, Int.reduceMul, Int.reduceDiv, Int.reduceMod, Int.reduceNeg, Int.reduceToNat, Int.reduceLT, Int.reduceLE, Int.reduceEq, Nat.reduceAdd, Nat.reduceMul, Nat.reduceEqDiff, reduceIte, or_true, true_or, or_false, false_or, or_self, and_true, true_and, and_false, false_and, not_true_eq_false, not_false_eq_true, ne_eq]
    congr 3
    split <;> split <;> omega
  by_cases e4 : k = 4
  · subst e4
    by_cases e0 : c = 0 ∨ c = 4
    · simp (disch := omega) only [X_93_0, X_93_1, X_93_32, X_93_33, X_93_34, X_93_35, X_93_37, X_93_38, X_93_39, X_93_40, X_93_41, X_93_43, X_93_44, X_93_45, X_93_46, X_93_49, X_93_50, X_93_51, X_93_54_t, X_93_54_f, X_93_54, X_93_57, X_93_58, X_93_61, X_93_62, X_93_63, X_93_64, X_93_66, X_93_67, X_93_68, X_93_69, S_isCrossing_t, pushR_some, Int.reduceAdd, Int.reduceSub, Int.reduceMul, Int.reduceDiv, Int.reduceMod, Int.reduceNeg, Int.reduceToNat, Int.reduceLT, Int.reduceLE, Int.reduceEq, Nat.reduceAdd, Nat.reduceMul, Nat.reduceEqDiff, reduceIte, or_true, true_or, or_false, false_or, or_self, and_true, true_and, and_false, false_and, not_true_eq_false, not_false_eq_true, ne_eq]
      rw [if_pos e0]
    · simp (disch := omega) only [X_93_0, X_93_1, X_93_32, X_93_33, X_93_34, X_93_35, X_93_37, X_93_38, X_93_39, X_93_40, X_93_41, X_93_43, X_93_44, X_93_45, X_93_46, X_93_49, X_93_50, X_93_51, X_93_54_t, X_93_54_f, X_93_54, X_93_57, X_93_58, X_93_61, X_93_62, X_93_63, X_93_64, X_93_66, X_93_67, X_93_68, X_93_69, S_isCrossing_f, pushR_some, Int.reduceAdd, Int.reduceSub, Int.reduceMul, Int.reduceDiv, Int.reduceMod, Int.reduceNeg, Int.reduceToNat, Int.reduceLT, Int.reduceLE, Int.reduceEq, Nat.reduceAdd, Nat.reduceMul, Nat.reduceEqDiff, reduceIte, or_true, true_or, or_false, false_or, or_self, and_true, true_and, and_false, false_and, not_true_eq_false, not_false_eq_true, ne_eq]
      rw [if_neg e0]
  simp (disch := omega) only [X_93_0, X_93_1, X_93_32, X_93_33, X_93_34, X_93_35, X_93_37, X_93_38, X_93_39, X_93_40, X_93_41, X_93_43, X_93_44, X_93_45, X_93_46, X_93_49, X_93_50, X_93_51, X_93_54_t, X_93_54_f, X_93_54, X_93_57, X_93_58, X_93_61, X_93_62, X_93_63, X_93_64, X_93_66, X_93_67, X_93_68, X_93_69, e1, e2, e4, Int.reduceAdd, Int.reduceSub, Int.reduceMul, Int.reduceDiv, Int.reduceMod, Int.reduceNeg, Int.reduceToNat, Int.reduceLT, Int.reduceLE, Int.reduceEq, Nat.reduceAdd, Nat.reduceMul, Nat.reduceEqDiff, reduceIte, or_true, true_or, or_false, false_or, or_self, and_true, true_and, and_false, false_and, not_true_eq_false, not_false_eq_true, ne_eq]
  by_cases e3 : k = 3
  · rw [if_pos e3]
  · rw [if_neg e3]
theorem S3_showsAs {d : Nat} {k cl c b t : Int} {G : AG} {h : AH} {Q : Option AV → AG → AH → Prop} (hd : 2 ≤ d ∧ (-2147483648 ≤ k ∧ k < 2147483648) ∧ (0 ≤ cl ∧ cl < 1000000) ∧ (-2147483648 ≤ c ∧ c < 2147483648) ∧ (0 ≤ b ∧ b < 1000000) ∧ (0 ≤ t ∧ t < 1000000)) : call d 142 [.inl k, .inl cl, .inl c, .inl b, .inl t] G h Q = Q (some (.inl (sh k cl c b t))) G h := by
  obtain ⟨d, rfl, -⟩ := pos_of hd.1
  rw [C_142]
  unfold sh
  by_cases e1 : k = 1
  · subst e1
    simp (disch := omega) only [X_142_0, X_142_1, X_142_2, X_142_3, X_142_5, X_142_6, X_142_8, X_142_9, X_142_40, X_142_42, X_142_43, X_142_44, X_142_46, X_142_47, X_142_48_t, X_142_48_f, X_142_48, X_142_51, X_142_52, X_142_54, X_142_55, X_142_56, X_142_57, X_142_60, X_142_61, X_142_62, X_142_63, X_142_66_t, X_142_66_f, X_142_66, X_142_69, X_142_70, X_142_73, X_142_75, X_142_76, X_142_77, Int.reduceAdd, Int.reduceSub, Int.reduceMul, Int.reduceDiv, Int.reduceMod, Int.reduceNeg, Int.reduceToNat, Int.reduceLT, Int.reduceLE, Int.reduceEq, Nat.reduceAdd, Nat.reduceMul, Nat.reduceEqDiff, reduceIte, or_true, true_or, or_false, false_or, or_self, and_true, true_and, and_false, false_and, not_true_eq_false, not_false_eq_true, ne_eq, fixp_n, fixp_i]
  by_cases e2 : k = 2
  · subst e2
    by_cases e5 : cl > t / 4
    · simp (disch := omega) only [X_142_0, X_142_1, X_142_2, X_142_3, X_142_5, X_142_6, X_142_8, X_142_9, X_142_40, X_142_42, X_142_43, X_142_44, X_142_46, X_142_47, X_142_48_t, X_142_48_f, X_142_48, X_142_51, X_142_52, X_142_54, X_142_55, X_142_56, X_142_57, X_142_60, X_142_61, X_142_62, X_142_63, X_142_66_t, X_142_66_f, X_142_66, X_142_69, X_142_70, X_142_73, X_142_75, X_142_76, X_142_77, pushR_some, Int.reduceAdd, Int.reduceSub, Int.reduceMul, Int.reduceDiv, Int.reduceMod, Int.reduceNeg, Int.reduceToNat, Int.reduceLT, Int.reduceLE, Int.reduceEq, Nat.reduceAdd, Nat.reduceMul, Nat.reduceEqDiff, reduceIte, or_true, true_or, or_false, false_or, or_self, and_true, true_and, and_false, false_and, not_true_eq_false, not_false_eq_true, ne_eq, fixp_n, fixp_i]
      rw [if_pos e5]
    · simp (disch := omega) only [X_142_0, X_142_1, X_142_2, X_142_3, X_142_5, X_142_6, X_142_8, X_142_9, X_142_40, X_142_42, X_142_43, X_142_44, X_142_46, X_142_47, X_142_48_t, X_142_48_f, X_142_48, X_142_51, X_142_52, X_142_54, X_142_55, X_142_56, X_142_57, X_142_60, X_142_61, X_142_62, X_142_63, X_142_66_t, X_142_66_f, X_142_66, X_142_69, X_142_70, X_142_73, X_142_75, X_142_76, X_142_77, pushR_some, Int.reduceAdd, Int.reduceSub, Int.reduceMul, Int.reduceDiv, Int.reduceMod, Int.reduceNeg, Int.reduceToNat, Int.reduceLT, Int.reduceLE, Int.reduceEq, Nat.reduceAdd, Nat.reduceMul, Nat.reduceEqDiff, reduceIte, or_true, true_or, or_false, false_or, or_self, and_true, true_and, and_false, false_and, not_true_eq_false, not_false_eq_true, ne_eq, fixp_n, fixp_i]
      rw [if_neg e5]
  by_cases e4 : k = 4
  · subst e4
    by_cases e0 : c = 0 ∨ c = 4
    · simp (disch := omega) only [X_142_0, X_142_1, X_142_2, X_142_3, X_142_5, X_142_6, X_142_8, X_142_9, X_142_40, X_142_42, X_142_43, X_142_44, X_142_46, X_142_47, X_142_48_t, X_142_48_f, X_142_48, X_142_51, X_142_52, X_142_54, X_142_55, X_142_56, X_142_57, X_142_60, X_142_61, X_142_62, X_142_63, X_142_66_t, X_142_66_f, X_142_66, X_142_69, X_142_70, X_142_73, X_142_75, X_142_76, X_142_77, S3_isCrossing_t, pushR_some, Int.reduceAdd, Int.reduceSub, Int.reduceMul, Int.reduceDiv, Int.reduceMod, Int.reduceNeg, Int.reduceToNat, Int.reduceLT, Int.reduceLE, Int.reduceEq, Nat.reduceAdd, Nat.reduceMul, Nat.reduceEqDiff, reduceIte, or_true, true_or, or_false, false_or, or_self, and_true, true_and, and_false, false_and, not_true_eq_false, not_false_eq_true, ne_eq, fixp_n, fixp_i]
      rw [if_pos e0]
    · simp (disch := omega) only [X_142_0, X_142_1, X_142_2, X_142_3, X_142_5, X_142_6, X_142_8, X_142_9, X_142_40, X_142_42, X_142_43, X_142_44, X_142_46, X_142_47, X_142_48_t, X_142_48_f, X_142_48, X_142_51, X_142_52, X_142_54, X_142_55, X_142_56, X_142_57, X_142_60, X_142_61, X_142_62, X_142_63, X_142_66_t, X_142_66_f, X_142_66, X_142_69, X_142_70, X_142_73, X_142_75, X_142_76, X_142_77, S3_isCrossing_f, pushR_some, Int.reduceAdd, Int.reduceSub, Int.reduceMul, Int.reduceDiv, Int.reduceMod, Int.reduceNeg, Int.reduceToNat, Int.reduceLT, Int.reduceLE, Int.reduceEq, Nat.reduceAdd, Nat.reduceMul, Nat.reduceEqDiff, reduceIte, or_true, true_or, or_false, false_or, or_self, and_true, true_and, and_false, false_and, not_true_eq_false, not_false_eq_true, ne_eq, fixp_n, fixp_i]
      rw [if_neg e0]
  simp (disch := omega) only [X_142_0, X_142_1, X_142_2, X_142_3, X_142_5, X_142_6, X_142_8, X_142_9, X_142_40, X_142_42, X_142_43, X_142_44, X_142_46, X_142_47, X_142_48_t, X_142_48_f, X_142_48, X_142_51, X_142_52, X_142_54, X_142_55, X_142_56, X_142_57, X_142_60, X_142_61, X_142_62, X_142_63, X_142_66_t, X_142_66_f, X_142_66, X_142_69, X_142_70, X_142_73, X_142_75, X_142_76, X_142_77, e1, e2, e4, Int.reduceAdd, Int.reduceSub, Int.reduceMul, Int.reduceDiv, Int.reduceMod, Int.reduceNeg, Int.reduceToNat, Int.reduceLT, Int.reduceLE, Int.reduceEq, Nat.reduceAdd, Nat.reduceMul, Nat.reduceEqDiff, reduceIte, or_true, true_or, or_false, false_or, or_self, and_true, true_and, and_false, false_and, not_true_eq_false, not_false_eq_true, ne_eq, fixp_n, fixp_i]
  by_cases e3 : k = 3
  · rw [if_pos e3]
  · rw [if_neg e3]
