/-! 56: rows of moves, refused or not -/
def mvOk (h : AH) (r : Nat) : Bool := allF (fun k => decide (0 ≤ h 67 (40 * r + k) ∧ h 67 (40 * r + k) ≤ 3)) (h 68 r).toNat 0
theorem S_mr_m {d r : Nat} {lo hi : Int} {h : AH} {Q : Option AV → AG → AH → Prop} (hd : 3 ≤ d) (hr : r < 6) (R : RowR h r) (h1 : h 68 r < 0) : call d 90 [.inr (.inr (some 0)), .inr (.inr (some (22 + 2 * r))), .inl lo, .inl hi] G1 h Q = Q (some (.inl (-3))) G1 (fnd h 1) := by
  obtain ⟨d, rfl, hd2⟩ := pos_of hd
  have g0 := g1_0
  have hR := rows_r hr
  have hw := hR.2
  have hs := rw_s hw
  obtain ⟨R1, R2, R3, R4, R5⟩ := R
  rw [C_90]
  simp (disch := omega) only [X_90_0, X_90_1, X_90_4_t, X_90_4_f, X_90_4, X_90_7, X_90_8, X_90_9, X_90_12, X_90_13, X_90_14, X_90_17, X_90_18, X_90_19, X_90_22_t, X_90_22_f, X_90_22, X_90_25, X_90_26, X_90_27, X_90_30, X_90_31, X_90_32, X_90_33, X_90_34, X_90_37_t, X_90_37_f, X_90_37, X_90_40, X_90_41, X_90_44, X_90_45, X_90_46, X_90_49, S_isMissing_t, S_found, pushR_some]
theorem S_mr_s {d r : Nat} {lo hi : Int} {h : AH} {Q : Option AV → AG → AH → Prop} (hd : 3 ≤ d) (hr : r < 6) (R : RowR h r) (h1 : 0 ≤ h 68 r) (hl : (0 ≤ lo ∧ lo ≤ 1) ∧ (0 ≤ hi ∧ hi ≤ 20)) (h2 : ¬ (lo ≤ h 68 r ∧ h 68 r ≤ hi)) : call d 90 [.inr (.inr (some 0)), .inr (.inr (some (22 + 2 * r))), .inl lo, .inl hi] G1 h Q = Q (some (.inl (-3))) G1 (fnd h 5) := by
  obtain ⟨d, rfl, hd2⟩ := pos_of hd
  have g0 := g1_0
  have hR := rows_r hr
  have hw := hR.2
  have hs := rw_s hw
  obtain ⟨R1, R2, R3, R4, R5⟩ := R
  rw [C_90]
  simp (disch := omega) only [X_90_0, X_90_1, X_90_4_t, X_90_4_f, X_90_4, X_90_7, X_90_8, X_90_9, X_90_12, X_90_13, X_90_14, X_90_17, X_90_18, X_90_19, X_90_22_t, X_90_22_f, X_90_22, X_90_25, X_90_26, X_90_27, X_90_30, X_90_31, X_90_32, X_90_33, X_90_34, X_90_37_t, X_90_37_f, X_90_37, X_90_40, X_90_41, X_90_44, X_90_45, X_90_46, X_90_49, S_isMissing_f, S_isWithin_f, S_found, pushR_some]
theorem S_mr_a {d r : Nat} {lo hi : Int} {h : AH} {Q : Option AV → AG → AH → Prop} (hd : 3 ≤ d) (hr : r < 6) (R : RowR h r) (h1 : 0 ≤ h 68 r) (hl : (0 ≤ lo ∧ lo ≤ 1) ∧ (0 ≤ hi ∧ hi ≤ 20)) (h2 : lo ≤ h 68 r ∧ h 68 r ≤ hi) : call d 90 [.inr (.inr (some 0)), .inr (.inr (some (22 + 2 * r))), .inl lo, .inl hi] G1 h Q = if mvOk h r = true then Q (some (.inl 0)) G1 h else Q (some (.inl (-3))) G1 (fnd h 3) := by
  obtain ⟨d, rfl, hd2⟩ := pos_of hd
  have g0 := g1_0
  have hR := rows_r hr
  have hw := hR.2
  have hs := rw_s hw
  have hL := rwL_r hr
  obtain ⟨R1, R2, R3, R4, R5⟩ := R
  have e : allF (fun k => decide (0 ≤ h (22 + 2 * r + 1) k ∧ h (22 + 2 * r + 1) k ≤ 3)) (h (22 + 2 * r) 2).toNat 0 = mvOk h r := by
    unfold mvOk
    rw [R1]
    exact allF_congr (fun c c1 c2 => by rw [q23, (R5 c (by omega)).1])
  have cA : ∀ Q, call d 8 [.inr (.inr (some (22 + 2 * r))), .inl 0, .inl 3] G1 h Q = if mvOk h r = true then Q (some (.inl 1)) G1 h else Q (some (.inl 0)) G1 h := fun Q => by
    rw [S_allWithin (by omega) hw (by omega) (fun k hk => by rw [q23, (R5 k (by omega)).1]; exact (R5 k (by omega)).2) (by omega), e]
  rw [C_90]
  by_cases z : mvOk h r = true
  · rw [if_pos z]
    simp (disch := omega) only [X_90_0, X_90_1, X_90_4_t, X_90_4_f, X_90_4, X_90_7, X_90_8, X_90_9, X_90_12, X_90_13, X_90_14, X_90_17, X_90_18, X_90_19, X_90_22_t, X_90_22_f, X_90_22, X_90_25, X_90_26, X_90_27, X_90_30, X_90_31, X_90_32, X_90_33, X_90_34, X_90_37_t, X_90_37_f, X_90_37, X_90_40, X_90_41, X_90_44, X_90_45, X_90_46, X_90_49, S_isMissing_f, S_isWithin_t, cA, if_pos z, pushR_some]
  · rw [if_neg z]
    simp (disch := omega) only [X_90_0, X_90_1, X_90_4_t, X_90_4_f, X_90_4, X_90_7, X_90_8, X_90_9, X_90_12, X_90_13, X_90_14, X_90_17, X_90_18, X_90_19, X_90_22_t, X_90_22_f, X_90_22, X_90_25, X_90_26, X_90_27, X_90_30, X_90_31, X_90_32, X_90_33, X_90_34, X_90_37_t, X_90_37_f, X_90_37, X_90_40, X_90_41, X_90_44, X_90_45, X_90_46, X_90_49, S_isMissing_f, S_isWithin_t, cA, if_neg z, S_found, pushR_some]
theorem S3_la_m {d r : Nat} {lo hi : Int} {h : AH} {Q : Option AV → AG → AH → Prop} (hd : 3 ≤ d) (hr : r < 6) (hb : -1 ≤ h 68 r ∧ h 68 r ≤ 40) (h1 : h 68 r < 0) : call d 166 [.inr (.inr (some 63)), .inl (r : Int), .inl lo, .inl hi] G1 h Q = Q (some (.inl (-3))) G1 (fn3 h 1) := by
  obtain ⟨d, rfl, hd2⟩ := pos_of hd
  have g0 := g1_63
  have g68 := g1_68
  rw [C_166]
  simp (disch := omega) only [X_166_0, X_166_1, X_166_4, X_166_5, X_166_6_t, X_166_6_f, X_166_6, X_166_9, X_166_10, X_166_11, X_166_14, X_166_15, X_166_16, X_166_19, X_166_20, X_166_21, X_166_22, X_166_23, X_166_24, X_166_25, X_166_26, X_166_29_t, X_166_29_f, X_166_29, X_166_32, X_166_33, X_166_34, X_166_37, X_166_38, X_166_39, X_166_43, X_166_44, X_166_47, X_166_48, X_166_49_t, X_166_49_f, X_166_49, X_166_52, X_166_53, X_166_56, X_166_58, X_166_59, X_166_60, X_166_62, X_166_63, X_166_64, X_166_67_t, X_166_67_f, X_166_67, X_166_70, X_166_71, X_166_72, X_166_75, X_166_76, X_166_79, X_166_82, X_166_83, r1_63_5, Int.toNat_natCast, S3_finds, pushR_some]
theorem S3_la_s {d r : Nat} {lo hi : Int} {h : AH} {Q : Option AV → AG → AH → Prop} (hd : 3 ≤ d) (hr : r < 6) (hb : -1 ≤ h 68 r ∧ h 68 r ≤ 40) (h1 : 0 ≤ h 68 r) (hl : (0 ≤ lo ∧ lo ≤ 1) ∧ (0 ≤ hi ∧ hi ≤ 20)) (h2 : ¬ (lo ≤ h 68 r ∧ h 68 r ≤ hi)) : call d 166 [.inr (.inr (some 63)), .inl (r : Int), .inl lo, .inl hi] G1 h Q = Q (some (.inl (-3))) G1 (fn3 h 5) := by
  obtain ⟨d, rfl, hd2⟩ := pos_of hd
  have g0 := g1_63
  have g68 := g1_68
  rw [C_166]
  simp (disch := omega) only [X_166_0, X_166_1, X_166_4, X_166_5, X_166_6_t, X_166_6_f, X_166_6, X_166_9, X_166_10, X_166_11, X_166_14, X_166_15, X_166_16, X_166_19, X_166_20, X_166_21, X_166_22, X_166_23, X_166_24, X_166_25, X_166_26, X_166_29_t, X_166_29_f, X_166_29, X_166_32, X_166_33, X_166_34, X_166_37, X_166_38, X_166_39, X_166_43, X_166_44, X_166_47, X_166_48, X_166_49_t, X_166_49_f, X_166_49, X_166_52, X_166_53, X_166_56, X_166_58, X_166_59, X_166_60, X_166_62, X_166_63, X_166_64, X_166_67_t, X_166_67_f, X_166_67, X_166_70, X_166_71, X_166_72, X_166_75, X_166_76, X_166_79, X_166_82, X_166_83, r1_63_5, Int.toNat_natCast, S3_in_f, S3_finds, pushR_some]
theorem S3_la_a {d r : Nat} {lo hi : Int} {h : AH} {Q : Option AV → AG → AH → Prop} (hd : 3 ≤ d) (hr : r < 6) (hb : -1 ≤ h 68 r ∧ h 68 r ≤ 40) (h1 : 0 ≤ h 68 r) (hl : (0 ≤ lo ∧ lo ≤ 1) ∧ (0 ≤ hi ∧ hi ≤ 20)) (h2 : lo ≤ h 68 r ∧ h 68 r ≤ hi) (R5 : ∀ k : Nat, (k : Int) < h 68 r → -2147483648 ≤ h 67 (40 * r + k) ∧ h 67 (40 * r + k) < 2147483648) : call d 166 [.inr (.inr (some 63)), .inl (r : Int), .inl lo, .inl hi] G1 h Q = if mvOk h r = true then Q (some (.inl 1)) G1 h else Q (some (.inl (-3))) G1 (fn3 h 3) := by
  obtain ⟨d, rfl, hd2⟩ := pos_of hd
  have g0 := g1_63
  have g68 := g1_68
  have g67 := g1_67
  have L : ∀ (m i : Nat), ((i + m : Nat) : Int) = h 68 r → wp d 166 41 [some (.inr (.inr (some 63))), some (.inl (r : Int)), some (.inl lo), some (.inl hi), some (.inl (i : Int))] [] G1 h Q = if allF (fun k => decide (0 ≤ h 67 (40 * r + k) ∧ h 67 (40 * r + k) ≤ 3)) m i = true then Q (some (.inl 1)) G1 h else Q (some (.inl (-3))) G1 (fn3 h 3) := by
    intro m
    induction m with
    | zero =>
      intro i hi
      simp (disch := omega) only [X_166_41, X_166_0, X_166_1, X_166_4, X_166_5, X_166_6_t, X_166_6_f, X_166_6, X_166_9, X_166_10, X_166_11, X_166_14, X_166_15, X_166_16, X_166_19, X_166_20, X_166_21, X_166_22, X_166_23, X_166_24, X_166_25, X_166_26, X_166_29_t, X_166_29_f, X_166_29, X_166_32, X_166_33, X_166_34, X_166_37, X_166_38, X_166_39, X_166_43, X_166_44, X_166_47, X_166_48, X_166_49_t, X_166_49_f, X_166_49, X_166_52, X_166_53, X_166_56, X_166_58, X_166_59, X_166_60, X_166_62, X_166_63, X_166_64, X_166_67_t, X_166_67_f, X_166_67, X_166_70, X_166_71, X_166_72, X_166_75, X_166_76, X_166_79, X_166_82, X_166_83, r1_63_5, Int.toNat_natCast, allF, if_true]
    | succ m ih =>
      intro i hi2
      have hbi := R5 i (by omega)
      have ih2 := ih (i + 1) (by omega)
      rw [X_166_41]
      by_cases e2 : 0 ≤ h 67 (40 * r + i) ∧ h 67 (40 * r + i) ≤ 3
      · have e3 : allF (fun k => decide (0 ≤ h 67 (40 * r + k) ∧ h 67 (40 * r + k) ≤ 3)) (m + 1) i = allF (fun k => decide (0 ≤ h 67 (40 * r + k) ∧ h 67 (40 * r + k) ≤ 3)) m (i + 1) := by
          simp only [allF, e2, and_self, decide_true, Bool.true_and]
        rw [e3, ← ih2]
        simp (disch := omega) only [X_166_0, X_166_1, X_166_4, X_166_5, X_166_6_t, X_166_6_f, X_166_6, X_166_9, X_166_10, X_166_11, X_166_14, X_166_15, X_166_16, X_166_19, X_166_20, X_166_21, X_166_22, X_166_23, X_166_24, X_166_25, X_166_26, X_166_29_t, X_166_29_f, X_166_29, X_166_32, X_166_33, X_166_34, X_166_37, X_166_38, X_166_39, X_166_43, X_166_44, X_166_47, X_166_48, X_166_49_t, X_166_49_f, X_166_49, X_166_52, X_166_53, X_166_56, X_166_58, X_166_59, X_166_60, X_166_62, X_166_63, X_166_64, X_166_67_t, X_166_67_f, X_166_67, X_166_70, X_166_71, X_166_72, X_166_75, X_166_76, X_166_79, X_166_82, X_166_83, r1_63_4, r1_63_5, tn40, Int.toNat_natCast, S3_isMove_t, pushR_some, fixp_i, natS]
      · have e3 : allF (fun k => decide (0 ≤ h 67 (40 * r + k) ∧ h 67 (40 * r + k) ≤ 3)) (m + 1) i = false := by
          simp only [allF, e2, decide_false, Bool.false_and]
        rw [e3, if_neg (by decide)]
        simp (disch := omega) only [X_166_0, X_166_1, X_166_4, X_166_5, X_166_6_t, X_166_6_f, X_166_6, X_166_9, X_166_10, X_166_11, X_166_14, X_166_15, X_166_16, X_166_19, X_166_20, X_166_21, X_166_22, X_166_23, X_166_24, X_166_25, X_166_26, X_166_29_t, X_166_29_f, X_166_29, X_166_32, X_166_33, X_166_34, X_166_37, X_166_38, X_166_39, X_166_43, X_166_44, X_166_47, X_166_48, X_166_49_t, X_166_49_f, X_166_49, X_166_52, X_166_53, X_166_56, X_166_58, X_166_59, X_166_60, X_166_62, X_166_63, X_166_64, X_166_67_t, X_166_67_f, X_166_67, X_166_70, X_166_71, X_166_72, X_166_75, X_166_76, X_166_79, X_166_82, X_166_83, r1_63_4, r1_63_5, tn40, Int.toNat_natCast, S3_isMove_f, S3_finds, pushR_some, fixp_i, natS]
  rw [C_166]
  simp (disch := omega) only [X_166_0, X_166_1, X_166_4, X_166_5, X_166_6_t, X_166_6_f, X_166_6, X_166_9, X_166_10, X_166_11, X_166_14, X_166_15, X_166_16, X_166_19, X_166_20, X_166_21, X_166_22, X_166_23, X_166_24, X_166_25, X_166_26, X_166_29_t, X_166_29_f, X_166_29, X_166_32, X_166_33, X_166_34, X_166_37, X_166_38, X_166_39, X_166_43, X_166_44, X_166_47, X_166_48, X_166_49_t, X_166_49_f, X_166_49, X_166_52, X_166_53, X_166_56, X_166_58, X_166_59, X_166_60, X_166_62, X_166_63, X_166_64, X_166_67_t, X_166_67_f, X_166_67, X_166_70, X_166_71, X_166_72, X_166_75, X_166_76, X_166_79, X_166_82, X_166_83, r1_63_5, Int.toNat_natCast, S3_in_t, pushR_some, fixp_i]
  exact L (h 68 r).toNat 0 (by omega)
