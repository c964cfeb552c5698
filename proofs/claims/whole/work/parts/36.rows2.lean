/-! 36: at, lay, tear, mean, text, put -/
theorem S_pr_m {d q : Nat} {i : Int} {h : AH} {Q : Option AV → AG → AH → Prop} (hd : 2 ≤ d) (hq : isRw q) (hb : -2147483648 ≤ i ∧ i < 2147483648) (hn : -1 ≤ h q 2 ∧ h q 2 < 0) : call d 89 [.inr (.inr (some 0)), .inr (.inr (some q)), .inl i] G1 h Q = Q (some (.inl (-3))) G1 (fnd h 1) := by
  obtain ⟨d, rfl, hd2⟩ := pos_of hd
  have hs := rw_s hq
  have g0 := g1_0
  rw [C_89]
  simp (disch := omega) only [X_89_0, X_89_1, X_89_4_t, X_89_4_f, X_89_4, X_89_7, X_89_8, X_89_9, X_89_12, X_89_13, X_89_14, X_89_15, X_89_18_t, X_89_18_f, X_89_18, X_89_21, X_89_22, X_89_25, X_89_26, X_89_27, X_89_30, S_isMissing_t,  pushR_some, S_found]
theorem S_pr_b {d q : Nat} {i : Int} {h : AH} {Q : Option AV → AG → AH → Prop} (hd : 2 ≤ d) (hq : isRw q) (hb : -2147483648 ≤ i ∧ i < 2147483648) (hn : 0 ≤ h q 2 ∧ h q 2 ≤ rwL q) (hi : ¬ (0 ≤ i ∧ i < h q 2)) : call d 89 [.inr (.inr (some 0)), .inr (.inr (some q)), .inl i] G1 h Q = Q (some (.inl (-3))) G1 (fnd h 2) := by
  obtain ⟨d, rfl, hd2⟩ := pos_of hd
  have hs := rw_s hq
  have g0 := g1_0
  rw [C_89]
  simp (disch := omega) only [X_89_0, X_89_1, X_89_4_t, X_89_4_f, X_89_4, X_89_7, X_89_8, X_89_9, X_89_12, X_89_13, X_89_14, X_89_15, X_89_18_t, X_89_18_f, X_89_18, X_89_21, X_89_22, X_89_25, X_89_26, X_89_27, X_89_30, S_isMissing_f, S_has_f, pushR_some, S_found]
theorem S_pr_t {d q : Nat} {i : Int} {h : AH} {Q : Option AV → AG → AH → Prop} (hd : 2 ≤ d) (hq : isRw q) (hb : -2147483648 ≤ i ∧ i < 2147483648) (hn : 0 ≤ h q 2 ∧ h q 2 ≤ rwL q) (hi : 0 ≤ i ∧ i < h q 2) : call d 89 [.inr (.inr (some 0)), .inr (.inr (some q)), .inl i] G1 h Q = Q (some (.inl 0)) G1 h := by
  obtain ⟨d, rfl, hd2⟩ := pos_of hd
  have hs := rw_s hq
  have g0 := g1_0
  rw [C_89]
  simp (disch := omega) only [X_89_0, X_89_1, X_89_4_t, X_89_4_f, X_89_4, X_89_7, X_89_8, X_89_9, X_89_12, X_89_13, X_89_14, X_89_15, X_89_18_t, X_89_18_f, X_89_18, X_89_21, X_89_22, X_89_25, X_89_26, X_89_27, X_89_30, S_isMissing_f, S_has_t, pushR_some, S_found]
theorem Op_at {r i : Int} (h_r : -2147483648 ≤ r ∧ r < 2147483648) (h_i : -2147483648 ≤ i ∧ i < 2147483648) : OpI 41 126 [.inl r, .inl i] := by
  intro n h H hn
  have g0 := g1_0
  have g1 := g1_1
  have g63 := g1_63
  have g68 := g1_68
  have g67 := g1_67
  by_cases h1 : 0 ≤ r ∧ r < 6
  case neg =>
    refine OpI_same (r := -1) (by omega) H (fun Q => ?_) (fun Q => ?_)
    · rw [C_41]
      simp (disch := omega) only [X_41_0, X_41_1, X_41_4_t, X_41_4_f, X_41_4, X_41_7, X_41_8, X_41_9, X_41_10, X_41_11, X_41_14, X_41_15, X_41_16, X_41_17, X_41_20, X_41_21, X_41_22_t, X_41_22_f, X_41_22, X_41_25, X_41_26, X_41_29, X_41_30, X_41_31, X_41_34, X_41_35, X_41_36, X_41_37, X_41_40, X_41_43, S_isRow_f, pushR_some]
    · rw [C_126]
      simp (disch := omega) only [X_126_0, X_126_1, X_126_4_t, X_126_4_f, X_126_4, X_126_7, X_126_8, X_126_9, X_126_10, X_126_13, X_126_14, X_126_15_t, X_126_15_f, X_126_15, X_126_18, X_126_19, X_126_20, X_126_23, X_126_24, X_126_25, X_126_26, X_126_27, X_126_28, X_126_31, X_126_32, X_126_33, X_126_34, X_126_35, X_126_36, X_126_39_t, X_126_39_f, X_126_39, X_126_42, X_126_43, X_126_44, X_126_47, X_126_49, X_126_50, X_126_51, X_126_52, X_126_53, X_126_54, X_126_57, X_126_60, X_126_61, X_126_62, X_126_65, S3_isRow_f, pushR_some]
  obtain ⟨r, rfl⟩ := nat_of h1.1
  have hr6 : r < 6 := by omega
  have hR := rows_r hr6
  have hL := rwL_r hr6
  have hw := hR.2
  have hs := rw_s hw
  have R := H.2.2.1 r hr6
  unfold RowR at R
  obtain ⟨R1, R2, R3, R4, R5⟩ := R
  by_cases h2 : h 68 r < 0
  case pos =>
    refine OpI_find (w := 1) (by omega) H (fun Q => ?_) (fun Q => ?_)
    · rw [C_41]
      simp (disch := omega) only [X_41_0, X_41_1, X_41_4_t, X_41_4_f, X_41_4, X_41_7, X_41_8, X_41_9, X_41_10, X_41_11, X_41_14, X_41_15, X_41_16, X_41_17, X_41_20, X_41_21, X_41_22_t, X_41_22_f, X_41_22, X_41_25, X_41_26, X_41_29, X_41_30, X_41_31, X_41_34, X_41_35, X_41_36, X_41_37, X_41_40, X_41_43, S_isRow_t, pushR_some, r1_0_0, Int.toNat_natCast, hR.1, S_pr_m, fixp_i, fixp_n]
    · rw [C_126]
      simp (disch := omega) only [X_126_0, X_126_1, X_126_4_t, X_126_4_f, X_126_4, X_126_7, X_126_8, X_126_9, X_126_10, X_126_13, X_126_14, X_126_15_t, X_126_15_f, X_126_15, X_126_18, X_126_19, X_126_20, X_126_23, X_126_24, X_126_25, X_126_26, X_126_27, X_126_28, X_126_31, X_126_32, X_126_33, X_126_34, X_126_35, X_126_36, X_126_39_t, X_126_39_f, X_126_39, X_126_42, X_126_43, X_126_44, X_126_47, X_126_49, X_126_50, X_126_51, X_126_52, X_126_53, X_126_54, X_126_57, X_126_60, X_126_61, X_126_62, X_126_65, S3_isRow_t, pushR_some, r1_63_4, r1_63_5, Int.toNat_natCast, S3_finds, fnd_o, fixp_i, fixp_n]
  by_cases h3 : 0 ≤ i ∧ i < h 68 r
  case neg =>
    refine OpI_find (w := 2) (by omega) H (fun Q => ?_) (fun Q => ?_)
    · rw [C_41]
      simp (disch := omega) only [X_41_0, X_41_1, X_41_4_t, X_41_4_f, X_41_4, X_41_7, X_41_8, X_41_9, X_41_10, X_41_11, X_41_14, X_41_15, X_41_16, X_41_17, X_41_20, X_41_21, X_41_22_t, X_41_22_f, X_41_22, X_41_25, X_41_26, X_41_29, X_41_30, X_41_31, X_41_34, X_41_35, X_41_36, X_41_37, X_41_40, X_41_43, S_isRow_t, pushR_some, r1_0_0, Int.toNat_natCast, hR.1, S_pr_b, fixp_i, fixp_n]
    · rw [C_126]
      simp (disch := omega) only [X_126_0, X_126_1, X_126_4_t, X_126_4_f, X_126_4, X_126_7, X_126_8, X_126_9, X_126_10, X_126_13, X_126_14, X_126_15_t, X_126_15_f, X_126_15, X_126_18, X_126_19, X_126_20, X_126_23, X_126_24, X_126_25, X_126_26, X_126_27, X_126_28, X_126_31, X_126_32, X_126_33, X_126_34, X_126_35, X_126_36, X_126_39_t, X_126_39_f, X_126_39, X_126_42, X_126_43, X_126_44, X_126_47, X_126_49, X_126_50, X_126_51, X_126_52, X_126_53, X_126_54, X_126_57, X_126_60, X_126_61, X_126_62, X_126_65, S3_isRow_t, pushR_some, r1_63_4, r1_63_5, Int.toNat_natCast, S3_finds, fnd_o, S3_in_f, fixp_i, fixp_n]
  obtain ⟨i, rfl⟩ := nat_of h3.1
  obtain ⟨R6, R7⟩ := R5 i h3.2
  refine OpI_ask (v := h 67 (40 * r + i)) R7 H (fun Q => ?_) (fun Q => ?_)
  · rw [C_41]
    simp (disch := omega) only [X_41_0, X_41_1, X_41_4_t, X_41_4_f, X_41_4, X_41_7, X_41_8, X_41_9, X_41_10, X_41_11, X_41_14, X_41_15, X_41_16, X_41_17, X_41_20, X_41_21, X_41_22_t, X_41_22_f, X_41_22, X_41_25, X_41_26, X_41_29, X_41_30, X_41_31, X_41_34, X_41_35, X_41_36, X_41_37, X_41_40, X_41_43, S_isRow_t, pushR_some, r1_0_0, Int.toNat_natCast, hR.1, S_pr_t, fixp_i, fixp_n, S_get, S_told, q23, R6]
  · rw [C_126]
    simp (disch := omega) only [X_126_0, X_126_1, X_126_4_t, X_126_4_f, X_126_4, X_126_7, X_126_8, X_126_9, X_126_10, X_126_13, X_126_14, X_126_15_t, X_126_15_f, X_126_15, X_126_18, X_126_19, X_126_20, X_126_23, X_126_24, X_126_25, X_126_26, X_126_27, X_126_28, X_126_31, X_126_32, X_126_33, X_126_34, X_126_35, X_126_36, X_126_39_t, X_126_39_f, X_126_39, X_126_42, X_126_43, X_126_44, X_126_47, X_126_49, X_126_50, X_126_51, X_126_52, X_126_53, X_126_54, X_126_57, X_126_60, X_126_61, X_126_62, X_126_65, S3_isRow_t, pushR_some, r1_63_4, r1_63_5, Int.toNat_natCast, S3_asks, put_row, S3_in_t, tn40]
theorem S3_at_m {d r : Nat} {i : Int} {h : AH} {Q : Option AV → AG → AH → Prop} (hd : 3 ≤ d) (hr : r < 6) (hb : -1 ≤ h 68 r ∧ h 68 r ≤ 40) (h_i : -2147483648 ≤ i ∧ i < 2147483648) (h2 : h 68 r < 0) : call d 126 [.inr (.inr (some 63)), .inl (r : Int), .inl i] G1 h Q = Q (some (.inl (-3))) G1 (fn3 h 1) := by
  obtain ⟨d, rfl, hd2⟩ := pos_of hd
  have g63 := g1_63
  have g68 := g1_68
  have g67 := g1_67
  rw [C_126]
  simp (disch := omega) only [X_126_0, X_126_1, X_126_4_t, X_126_4_f, X_126_4, X_126_7, X_126_8, X_126_9, X_126_10, X_126_13, X_126_14, X_126_15_t, X_126_15_f, X_126_15, X_126_18, X_126_19, X_126_20, X_126_23, X_126_24, X_126_25, X_126_26, X_126_27, X_126_28, X_126_31, X_126_32, X_126_33, X_126_34, X_126_35, X_126_36, X_126_39_t, X_126_39_f, X_126_39, X_126_42, X_126_43, X_126_44, X_126_47, X_126_49, X_126_50, X_126_51, X_126_52, X_126_53, X_126_54, X_126_57, X_126_60, X_126_61, X_126_62, X_126_65, S3_isRow_t, pushR_some, r1_63_4, r1_63_5, Int.toNat_natCast, S3_finds, S3_in_f]
theorem S3_at_b {d r : Nat} {i : Int} {h : AH} {Q : Option AV → AG → AH → Prop} (hd : 3 ≤ d) (hr : r < 6) (hb : -1 ≤ h 68 r ∧ h 68 r ≤ 40) (h_i : -2147483648 ≤ i ∧ i < 2147483648) (h2 : ¬ h 68 r < 0) (h3 : ¬ (0 ≤ i ∧ i < h 68 r)) : call d 126 [.inr (.inr (some 63)), .inl (r : Int), .inl i] G1 h Q = Q (some (.inl (-3))) G1 (fn3 h 2) := by
  obtain ⟨d, rfl, hd2⟩ := pos_of hd
  have g63 := g1_63
  have g68 := g1_68
  have g67 := g1_67
  rw [C_126]
  simp (disch := omega) only [X_126_0, X_126_1, X_126_4_t, X_126_4_f, X_126_4, X_126_7, X_126_8, X_126_9, X_126_10, X_126_13, X_126_14, X_126_15_t, X_126_15_f, X_126_15, X_126_18, X_126_19, X_126_20, X_126_23, X_126_24, X_126_25, X_126_26, X_126_27, X_126_28, X_126_31, X_126_32, X_126_33, X_126_34, X_126_35, X_126_36, X_126_39_t, X_126_39_f, X_126_39, X_126_42, X_126_43, X_126_44, X_126_47, X_126_49, X_126_50, X_126_51, X_126_52, X_126_53, X_126_54, X_126_57, X_126_60, X_126_61, X_126_62, X_126_65, S3_isRow_t, pushR_some, r1_63_4, r1_63_5, Int.toNat_natCast, S3_finds, S3_in_f]
theorem S3_at_t {d r i : Nat} {h : AH} {Q : Option AV → AG → AH → Prop} (hd : 3 ≤ d) (hr : r < 6) (hb : -1 ≤ h 68 r ∧ h 68 r ≤ 40) (h3 : (i : Int) < h 68 r) : call d 126 [.inr (.inr (some 63)), .inl (r : Int), .inl (i : Int)] G1 h Q = Q (some (.inl 1)) G1 (put h 63 10 (h 67 (40 * r + i))) := by
  obtain ⟨d, rfl, hd2⟩ := pos_of hd
  have g63 := g1_63
  have g68 := g1_68
  have g67 := g1_67
  rw [C_126]
  simp (disch := omega) only [X_126_0, X_126_1, X_126_4_t, X_126_4_f, X_126_4, X_126_7, X_126_8, X_126_9, X_126_10, X_126_13, X_126_14, X_126_15_t, X_126_15_f, X_126_15, X_126_18, X_126_19, X_126_20, X_126_23, X_126_24, X_126_25, X_126_26, X_126_27, X_126_28, X_126_31, X_126_32, X_126_33, X_126_34, X_126_35, X_126_36, X_126_39_t, X_126_39_f, X_126_39, X_126_42, X_126_43, X_126_44, X_126_47, X_126_49, X_126_50, X_126_51, X_126_52, X_126_53, X_126_54, X_126_57, X_126_60, X_126_61, X_126_62, X_126_65, S3_isRow_t, pushR_some, r1_63_4, r1_63_5, Int.toNat_natCast, S3_asks, S3_in_t, tn40]
theorem S3_at_o {d : Nat} {r : Int} {i : Int} {h : AH} {Q : Option AV → AG → AH → Prop} (hd : 3 ≤ d) (hr : ¬ (0 ≤ r ∧ r < 6)) (h_r : -2147483648 ≤ r ∧ r < 2147483648) : call d 126 [.inr (.inr (some 63)), .inl r, .inl i] G1 h Q = Q (some (.inl (-1))) G1 h := by
  obtain ⟨d, rfl, hd2⟩ := pos_of hd
  have g63 := g1_63
  rw [C_126]
  simp (disch := omega) only [X_126_0, X_126_1, X_126_4_t, X_126_4_f, X_126_4, X_126_7, X_126_8, X_126_9, X_126_10, X_126_13, X_126_14, X_126_15_t, X_126_15_f, X_126_15, X_126_18, X_126_19, X_126_20, X_126_23, X_126_24, X_126_25, X_126_26, X_126_27, X_126_28, X_126_31, X_126_32, X_126_33, X_126_34, X_126_35, X_126_36, X_126_39_t, X_126_39_f, X_126_39, X_126_42, X_126_43, X_126_44, X_126_47, X_126_49, X_126_50, X_126_51, X_126_52, X_126_53, X_126_54, X_126_57, X_126_60, X_126_61, X_126_62, X_126_65, S3_isRow_f, pushR_some]
theorem Op_lay {r i v : Int} (h_r : -2147483648 ≤ r ∧ r < 2147483648) (h_i : -2147483648 ≤ i ∧ i < 2147483648) (h_v : -2147483648 ≤ v ∧ v < 2147483648) : OpI 40 125 [.inl r, .inl i, .inl v] := by
  intro n h H hn
  have g0 := g1_0
  have g1 := g1_1
  have g63 := g1_63
  have g68 := g1_68
  have g67 := g1_67
  by_cases h1 : 0 ≤ r ∧ r < 6
  case neg =>
    refine OpI_same (r := -1) (by omega) H (fun Q => ?_) (fun Q => ?_)
    · rw [C_40]
      simp (disch := omega) only [X_40_0, X_40_1, X_40_4_t, X_40_4_f, X_40_4, X_40_7, X_40_8, X_40_9, X_40_10, X_40_11, X_40_14, X_40_15, X_40_16, X_40_17, X_40_20, X_40_22, X_40_24_t, X_40_24_f, X_40_24, X_40_27, X_40_29, X_40_30, X_40_31, X_40_34, X_40_35, X_40_36, X_40_37, X_40_40, X_40_42, X_40_43, X_40_46, X_40_47, X_40_48, X_40_49, X_40_50, X_40_53, X_40_54, X_40_56, X_40_59, S_isRow_f, pushR_some]
    · rw [C_125]
      simp (disch := omega) only [X_125_0, X_125_1, X_125_2, X_125_3, X_125_6, X_125_8, X_125_10, X_125_11_t, X_125_11_f, X_125_11, X_125_14, X_125_15, X_125_18, X_125_20, X_125_21, X_125_22, X_125_23, X_125_24, X_125_25, X_125_26, X_125_28, S3_at_o, fixp_i, pushR_some]
  obtain ⟨r, rfl⟩ := nat_of h1.1
  have hr6 : r < 6 := by omega
  have hR := rows_r hr6
  have hL := rwL_r hr6
  have hw := hR.2
  have hs := rw_s hw
  have R := H.2.2.1 r hr6
  unfold RowR at R
  obtain ⟨R1, R2, R3, R4, R5⟩ := R
  by_cases h2 : h 68 r < 0
  case pos =>
    have wf : fnd h 1 68 r = h 68 r := by rw [fnd_o (by omega) (by omega)]
    refine OpI_find (w := 1) (by omega) H (fun Q => ?_) (fun Q => ?_)
    · rw [C_40]
      simp (disch := omega) only [X_40_0, X_40_1, X_40_4_t, X_40_4_f, X_40_4, X_40_7, X_40_8, X_40_9, X_40_10, X_40_11, X_40_14, X_40_15, X_40_16, X_40_17, X_40_20, X_40_22, X_40_24_t, X_40_24_f, X_40_24, X_40_27, X_40_29, X_40_30, X_40_31, X_40_34, X_40_35, X_40_36, X_40_37, X_40_40, X_40_42, X_40_43, X_40_46, X_40_47, X_40_48, X_40_49, X_40_50, X_40_53, X_40_54, X_40_56, X_40_59, S_isRow_t, pushR_some, r1_0_0, Int.toNat_natCast, hR.1, S_pr_m, fixp_i, fixp_n]
    · rw [C_125]
      simp (disch := omega) only [X_125_0, X_125_1, X_125_2, X_125_3, X_125_6, X_125_8, X_125_10, X_125_11_t, X_125_11_f, X_125_11, X_125_14, X_125_15, X_125_18, X_125_20, X_125_21, X_125_22, X_125_23, X_125_24, X_125_25, X_125_26, X_125_28, S3_isRow_t, pushR_some, r1_63_4, r1_63_5, Int.toNat_natCast, fnd_o, S3_at_m, fixp_i, fixp_n]
  by_cases h3 : 0 ≤ i ∧ i < h 68 r
  case neg =>
    have wf : fnd h 2 68 r = h 68 r := by rw [fnd_o (by omega) (by omega)]
    refine OpI_find (w := 2) (by omega) H (fun Q => ?_) (fun Q => ?_)
    · rw [C_40]
      simp (disch := omega) only [X_40_0, X_40_1, X_40_4_t, X_40_4_f, X_40_4, X_40_7, X_40_8, X_40_9, X_40_10, X_40_11, X_40_14, X_40_15, X_40_16, X_40_17, X_40_20, X_40_22, X_40_24_t, X_40_24_f, X_40_24, X_40_27, X_40_29, X_40_30, X_40_31, X_40_34, X_40_35, X_40_36, X_40_37, X_40_40, X_40_42, X_40_43, X_40_46, X_40_47, X_40_48, X_40_49, X_40_50, X_40_53, X_40_54, X_40_56, X_40_59, S_isRow_t, pushR_some, r1_0_0, Int.toNat_natCast, hR.1, S_pr_b, fixp_i, fixp_n]
    · rw [C_125]
      simp (disch := omega) only [X_125_0, X_125_1, X_125_2, X_125_3, X_125_6, X_125_8, X_125_10, X_125_11_t, X_125_11_f, X_125_11, X_125_14, X_125_15, X_125_18, X_125_20, X_125_21, X_125_22, X_125_23, X_125_24, X_125_25, X_125_26, X_125_28, S3_isRow_t, pushR_some, r1_63_4, r1_63_5, Int.toNat_natCast, fnd_o, S3_in_f, S3_at_b, fixp_i, fixp_n]
  obtain ⟨i, rfl⟩ := nat_of h3.1
  obtain ⟨R6, R7⟩ := R5 i h3.2
  generalize eb : h 67 (40 * r + i) = b at R6 R7
  generalize e1 : put (put h (23 + 2 * r) i v) 0 10 b = h2
  generalize e2 : put (put h2 63 10 b) 67 (40 * r + i) v = h3
  have w67 : h2 67 = h 67 := by rw [← e1, put_row (by omega), put_row (by omega)]
  have w68 : h2 68 = h 68 := by rw [← e1, put_row (by omega), put_row (by omega)]
  have w68r : h2 68 r = h 68 r := by rw [w68]
  have y68 : h3 68 = h 68 := by rw [← e2, put_row (by omega), put_row (by omega), w68]
  refine ⟨1, h2, h3, by omega, fun Q => ?_, fun Q => ?_, INV_row hr6 (INV_ask (v := b) R7 H) (fun a a1 a2 a3 a4 a5 => ?_) (fun s hs => ?_) (fun s hs hz => ?_) (fun s hs => ?_) ?_⟩
  · rw [C_40]
    simp (disch := omega) only [X_40_0, X_40_1, X_40_4_t, X_40_4_f, X_40_4, X_40_7, X_40_8, X_40_9, X_40_10, X_40_11, X_40_14, X_40_15, X_40_16, X_40_17, X_40_20, X_40_22, X_40_24_t, X_40_24_f, X_40_24, X_40_27, X_40_29, X_40_30, X_40_31, X_40_34, X_40_35, X_40_36, X_40_37, X_40_40, X_40_42, X_40_43, X_40_46, X_40_47, X_40_48, X_40_49, X_40_50, X_40_53, X_40_54, X_40_56, X_40_59, S_isRow_t, pushR_some, r1_0_0, Int.toNat_natCast, hR.1, S_pr_t, fixp_i, fixp_n, S_get, S_set, S_told, q23, R6, pushR_none, e1]
  · rw [C_125]
    simp (disch := omega) only [X_125_0, X_125_1, X_125_2, X_125_3, X_125_6, X_125_8, X_125_10, X_125_11_t, X_125_11_f, X_125_11, X_125_14, X_125_15, X_125_18, X_125_20, X_125_21, X_125_22, X_125_23, X_125_24, X_125_25, X_125_26, X_125_28, S3_isRow_t, pushR_some, r1_63_4, r1_63_5, Int.toNat_natCast, S3_at_t, w67, w68, eb, fixp_i, fixp_n, tn40, e2]
  · rw [← e2, put_row a4, ← e1]
    by_cases z0 : a = 0
    · subst z0; simp (disch := omega) only [put_set, setR_s, setR_n]
    · by_cases z3 : a = 63
      · subst z3; simp (disch := omega) only [put_set, setR_s, setR_n]
      · simp (disch := omega) only [put_row]
  · rw [← e2, put_row (by omega), put_row (by omega), ← e1, put_row (by omega), put_row (by omega)]
    exact H.2.1 s hs
  · rw [y68, put_row (by omega), put_row (by omega)]
  · rw [← e2, put_nk (by omega), put_row (by omega), w67, put_row (by omega), put_row (by omega)]
  · unfold RowR
    rw [y68]
    refine ⟨?_, ?_, R3, R4, fun k hk => ?_⟩
    · rw [← e2, put_row (by omega), put_row (by omega), ← e1, put_row (by omega), put_row (by omega)]; exact R1
    · rw [← e2, put_row (by omega), put_row (by omega), ← e1, put_row (by omega), put_row (by omega)]; exact R2
    · have z1 : h3 (23 + 2 * r) = putR (h (23 + 2 * r)) i v := by
        rw [← e2, put_row (by omega), put_row (by omega), ← e1, put_row (by omega), put_set, setR_s]
      have z2 : h3 67 = putR (h 67) (40 * r + i) v := by
        rw [← e2, put_set, setR_s, put_row (by omega), w67]
      rw [z1, z2]
      by_cases zk : k = i
      · subst zk
        rw [putR_s, putR_s]
        omega
      · rw [putR_n zk, putR_n (by omega)]
        exact R5 k hk
theorem Op_tear {r : Int} (h_r : -2147483648 ≤ r ∧ r < 2147483648) : OpI 42 127 [.inl r] := by
  intro n h H hn
  have g0 := g1_0
  have g1 := g1_1
  have g63 := g1_63
  have g68 := g1_68
  have g67 := g1_67
  by_cases h1 : 0 ≤ r ∧ r < 6
  case neg =>
    refine OpI_same (r := -1) (by omega) H (fun Q => ?_) (fun Q => ?_)
    · rw [C_42]
      simp (disch := omega) only [X_42_0, X_42_1, X_42_4_t, X_42_4_f, X_42_4, X_42_7, X_42_8, X_42_9, X_42_10, X_42_13, X_42_14, X_42_15, X_42_18_t, X_42_18_f, X_42_18, X_42_21, X_42_22, X_42_23, X_42_26, X_42_27, X_42_28, X_42_31, X_42_32, X_42_33, X_42_34, X_42_37, X_42_38, S_isRow_f, pushR_some]
    · rw [C_127]
      simp (disch := omega) only [X_127_0, X_127_1, X_127_4_t, X_127_4_f, X_127_4, X_127_7, X_127_8, X_127_9, X_127_10, X_127_13, X_127_14, X_127_15_t, X_127_15_f, X_127_15, X_127_18, X_127_19, X_127_20, X_127_23, X_127_24, X_127_25, X_127_28, X_127_29, X_127_30, X_127_31, X_127_32, S3_isRow_f, pushR_some]
  obtain ⟨r, rfl⟩ := nat_of h1.1
  have hr6 : r < 6 := by omega
  have hR := rows_r hr6
  have hL := rwL_r hr6
  have hw := hR.2
  have hs := rw_s hw
  have R := H.2.2.1 r hr6
  unfold RowR at R
  obtain ⟨R1, R2, R3, R4, R5⟩ := R
  by_cases h2 : h 68 r < 0
  case pos =>
    refine OpI_find (w := 1) (by omega) H (fun Q => ?_) (fun Q => ?_)
    · rw [C_42]
      simp (disch := omega) only [X_42_0, X_42_1, X_42_4_t, X_42_4_f, X_42_4, X_42_7, X_42_8, X_42_9, X_42_10, X_42_13, X_42_14, X_42_15, X_42_18_t, X_42_18_f, X_42_18, X_42_21, X_42_22, X_42_23, X_42_26, X_42_27, X_42_28, X_42_31, X_42_32, X_42_33, X_42_34, X_42_37, X_42_38, S_isRow_t, pushR_some, r1_0_0, Int.toNat_natCast, hR.1, S_isMissing_t, S_found, fixp_i, fixp_n]
    · rw [C_127]
      simp (disch := omega) only [X_127_0, X_127_1, X_127_4_t, X_127_4_f, X_127_4, X_127_7, X_127_8, X_127_9, X_127_10, X_127_13, X_127_14, X_127_15_t, X_127_15_f, X_127_15, X_127_18, X_127_19, X_127_20, X_127_23, X_127_24, X_127_25, X_127_28, X_127_29, X_127_30, X_127_31, X_127_32, S3_isRow_t, pushR_some, r1_63_4, r1_63_5, Int.toNat_natCast, S3_finds, fnd_o, fixp_i, fixp_n]
  generalize e1 : put h (22 + 2 * r) 2 (-1) = h2
  generalize e2 : put h2 68 r (-1) = h3
  have w68 : h2 68 = h 68 := by rw [← e1, put_row (by omega)]
  refine ⟨1, h2, h3, by omega, fun Q => ?_, fun Q => ?_, INV_same (INV_row hr6 H (fun a a1 a2 a3 a4 a5 => ?_) (fun s hs => ?_) (fun s hs hz => ?_) (fun s hs => ?_) ?_)⟩
  · rw [C_42]
    simp (disch := omega) only [X_42_0, X_42_1, X_42_4_t, X_42_4_f, X_42_4, X_42_7, X_42_8, X_42_9, X_42_10, X_42_13, X_42_14, X_42_15, X_42_18_t, X_42_18_f, X_42_18, X_42_21, X_42_22, X_42_23, X_42_26, X_42_27, X_42_28, X_42_31, X_42_32, X_42_33, X_42_34, X_42_37, X_42_38, S_isRow_t, pushR_some, r1_0_0, Int.toNat_natCast, hR.1, S_isMissing_f, e1]
  · rw [C_127]
    simp (disch := omega) only [X_127_0, X_127_1, X_127_4_t, X_127_4_f, X_127_4, X_127_7, X_127_8, X_127_9, X_127_10, X_127_13, X_127_14, X_127_15_t, X_127_15_f, X_127_15, X_127_18, X_127_19, X_127_20, X_127_23, X_127_24, X_127_25, X_127_28, X_127_29, X_127_30, X_127_31, X_127_32, S3_isRow_t, pushR_some, r1_63_4, r1_63_5, Int.toNat_natCast, w68, e2]
  · rw [← e2, put_row a5, ← e1, put_row a2]
  · rw [← e2, put_row (by omega), ← e1, put_row (by omega)]
    exact H.2.1 s hs
  · rw [← e2, put_nk hz, w68]
  · rw [← e2, put_row (by omega), ← e1, put_row (by omega)]
  · have y68 : h3 68 r = -1 := by rw [← e2, put_s]
    unfold RowR
    rw [y68]
    refine ⟨?_, ?_, by omega, by omega, fun k hk => by omega⟩
    · rw [← e2, put_row (by omega), ← e1, put_s]
    · rw [← e2, put_row (by omega), ← e1, put_nk (by omega)]; exact R2
theorem sumF_bd {g : Nat → Int} : ∀ {n i : Nat} {a : Int}, (∀ c, i ≤ c → c < i + n → -2147483648 ≤ g c ∧ g c < 2147483648) → a - 2147483648 * (n : Int) ≤ sumF g n i a ∧ sumF g n i a ≤ a + 2147483647 * (n : Int)
  | 0, _, _, _ => by simp only [sumF]; omega
  | n + 1, i, a, h => by
    simp only [sumF]
    have h1 := h i (Nat.le_refl _) (by omega)
    have h2 := sumF_bd (g := g) (n := n) (i := i + 1) (a := a + g i) (fun c c1 c2 => h c (by omega) (by omega))
    omega
theorem tdiv_bd {x y : Int} (hy : 0 < y) (h1 : -(2147483648 * y) ≤ x) (h2 : x ≤ 2147483647 * y) : -2147483648 ≤ Int.tdiv x y ∧ Int.tdiv x y < 2147483648 := by
  by_cases hx : 0 ≤ x
  · rw [Int.tdiv_eq_ediv_of_nonneg hx]
    have h3 : 0 ≤ x / y := Int.ediv_nonneg hx (by omega)
    have h4 : x / y < 2147483648 := Int.ediv_lt_of_lt_mul hy (by omega)
    omega
  · have e : x = -(-x) := by omega
    rw [e, Int.neg_tdiv, Int.tdiv_eq_ediv_of_nonneg (by omega)]
    have h3 : 0 ≤ (-x) / y := Int.ediv_nonneg (by omega) (by omega)
    have h4 : (-x) / y < 2147483649 := Int.ediv_lt_of_lt_mul hy (by omega)
    omega
theorem L3_mean {d r : Nat} {h : AH} {Q : Option AV → AG → AH → Prop} (hr : r < 6) (hb : ∀ k : Nat, (k : Int) < h 68 r → -2147483648 ≤ h 67 (40 * r + k) ∧ h 67 (40 * r + k) < 2147483648) (hm : h 68 r ≤ 40) : ∀ (n i : Nat) (a : Int), ((i + n : Nat) : Int) = h 68 r → wp d 129 44 [some (.inr (.inr (some 63))), some (.inl (r : Int)), some (.inr (.inl a)), none, some (.inl (i : Int))] [] G1 h Q = wp d 129 77 [some (.inr (.inr (some 63))), some (.inl (r : Int)), some (.inr (.inl (sumF (fun k => h 67 (40 * r + k)) n i a))), none, some (.inl (h 68 r))] [] G1 h Q := by
  intro n
  have g0 := g1_63
  have g1 := g1_67
  have g2 := g1_68
  induction n with
  | zero =>
    intro i a hi
    rw [show h 68 r = (i : Int) by omega]
    rw [X_129_44]
    rw [X_129_46, X_129_47 (by omega), r1_63_5, X_129_50, X_129_51 (by omega), Int.toNat_natCast, X_129_52_t (by omega)]
    rfl
  | succ n ih =>
    intro i a hi
    have hbi := hb i (by omega)
    have q := ih (i + 1) (a + h 67 (40 * r + i)) (by omega)
    rw [X_129_44]
    refine Eq.trans ?_ q
    simp (disch := omega) only [X_129_0, X_129_1, X_129_4_t, X_129_4_f, X_129_4, X_129_7, X_129_8, X_129_9, X_129_10, X_129_13, X_129_14, X_129_15_t, X_129_15_f, X_129_15, X_129_18, X_129_19, X_129_20, X_129_23, X_129_24, X_129_25, X_129_28, X_129_29, X_129_30_t, X_129_30_f, X_129_30, X_129_33, X_129_34, X_129_35, X_129_38, X_129_39, X_129_40, X_129_41, X_129_42, X_129_46, X_129_47, X_129_50, X_129_51, X_129_52_t, X_129_52_f, X_129_52, X_129_55, X_129_56, X_129_57, X_129_60, X_129_62, X_129_63, X_129_64, X_129_66, X_129_67, X_129_68, X_129_69, X_129_70, X_129_71, X_129_74, X_129_77, X_129_78, X_129_79, X_129_80, X_129_83, X_129_84, X_129_85, X_129_86, X_129_87, X_129_88, X_129_91, r1_63_4, r1_63_5, tn40, Int.toNat_natCast, fixp_i, fixp_n, natS]
theorem Op_mean {r : Int} (h_r : -2147483648 ≤ r ∧ r < 2147483648) : OpI 44 129 [.inl r] := by
  intro n h H hn
  have g0 := g1_0
  have g1 := g1_1
  have g63 := g1_63
  have g68 := g1_68
  have g67 := g1_67
  by_cases h1 : 0 ≤ r ∧ r < 6
  case neg =>
    refine OpI_same (r := -1) (by omega) H (fun Q => ?_) (fun Q => ?_)
    · rw [C_44]
      simp (disch := omega) only [X_44_0, X_44_1, X_44_4_t, X_44_4_f, X_44_4, X_44_7, X_44_8, X_44_9, X_44_10, X_44_13, X_44_14, X_44_15, X_44_18_t, X_44_18_f, X_44_18, X_44_21, X_44_22, X_44_23, X_44_26, X_44_27, X_44_28, X_44_31, X_44_32, X_44_33, X_44_36_t, X_44_36_f, X_44_36, X_44_39, X_44_40, X_44_41, X_44_44, X_44_45, X_44_46, X_44_47, X_44_50, X_44_51, X_44_52, X_44_55, X_44_56, X_44_59, X_44_60, X_44_61, X_44_64, X_44_65, X_44_66, X_44_67, X_44_70, S_isRow_f, pushR_some]
    · rw [C_129]
      simp (disch := omega) only [X_129_0, X_129_1, X_129_4_t, X_129_4_f, X_129_4, X_129_7, X_129_8, X_129_9, X_129_10, X_129_13, X_129_14, X_129_15_t, X_129_15_f, X_129_15, X_129_18, X_129_19, X_129_20, X_129_23, X_129_24, X_129_25, X_129_28, X_129_29, X_129_30_t, X_129_30_f, X_129_30, X_129_33, X_129_34, X_129_35, X_129_38, X_129_39, X_129_40, X_129_41, X_129_42, X_129_46, X_129_47, X_129_50, X_129_51, X_129_52_t, X_129_52_f, X_129_52, X_129_55, X_129_56, X_129_57, X_129_60, X_129_62, X_129_63, X_129_64, X_129_66, X_129_67, X_129_68, X_129_69, X_129_70, X_129_71, X_129_74, X_129_77, X_129_78, X_129_79, X_129_80, X_129_83, X_129_84, X_129_85, X_129_86, X_129_87, X_129_88, X_129_91, S3_isRow_f, pushR_some]
  obtain ⟨r, rfl⟩ := nat_of h1.1
  have hr6 : r < 6 := by omega
  have hR := rows_r hr6
  have hL := rwL_r hr6
  have hw := hR.2
  have hs := rw_s hw
  have R := H.2.2.1 r hr6
  unfold RowR at R
  obtain ⟨R1, R2, R3, R4, R5⟩ := R
  by_cases h2 : h 68 r < 0
  case pos =>
    refine OpI_find (w := 1) (by omega) H (fun Q => ?_) (fun Q => ?_)
    · rw [C_44]
      simp (disch := omega) only [X_44_0, X_44_1, X_44_4_t, X_44_4_f, X_44_4, X_44_7, X_44_8, X_44_9, X_44_10, X_44_13, X_44_14, X_44_15, X_44_18_t, X_44_18_f, X_44_18, X_44_21, X_44_22, X_44_23, X_44_26, X_44_27, X_44_28, X_44_31, X_44_32, X_44_33, X_44_36_t, X_44_36_f, X_44_36, X_44_39, X_44_40, X_44_41, X_44_44, X_44_45, X_44_46, X_44_47, X_44_50, X_44_51, X_44_52, X_44_55, X_44_56, X_44_59, X_44_60, X_44_61, X_44_64, X_44_65, X_44_66, X_44_67, X_44_70, S_isRow_t, pushR_some, r1_0_0, Int.toNat_natCast, hR.1, S_isMissing_t, S_found, fixp_i, fixp_n]
    · rw [C_129]
      simp (disch := omega) only [X_129_0, X_129_1, X_129_4_t, X_129_4_f, X_129_4, X_129_7, X_129_8, X_129_9, X_129_10, X_129_13, X_129_14, X_129_15_t, X_129_15_f, X_129_15, X_129_18, X_129_19, X_129_20, X_129_23, X_129_24, X_129_25, X_129_28, X_129_29, X_129_30_t, X_129_30_f, X_129_30, X_129_33, X_129_34, X_129_35, X_129_38, X_129_39, X_129_40, X_129_41, X_129_42, X_129_46, X_129_47, X_129_50, X_129_51, X_129_52_t, X_129_52_f, X_129_52, X_129_55, X_129_56, X_129_57, X_129_60, X_129_62, X_129_63, X_129_64, X_129_66, X_129_67, X_129_68, X_129_69, X_129_70, X_129_71, X_129_74, X_129_77, X_129_78, X_129_79, X_129_80, X_129_83, X_129_84, X_129_85, X_129_86, X_129_87, X_129_88, X_129_91, S3_isRow_t, pushR_some, r1_63_4, r1_63_5, Int.toNat_natCast, S3_finds, fnd_o, fixp_i, fixp_n]
  by_cases h3 : h 68 r = 0
  case pos =>
    refine OpI_find (w := 4) (by omega) H (fun Q => ?_) (fun Q => ?_)
    · rw [C_44]
      simp (disch := omega) only [X_44_0, X_44_1, X_44_4_t, X_44_4_f, X_44_4, X_44_7, X_44_8, X_44_9, X_44_10, X_44_13, X_44_14, X_44_15, X_44_18_t, X_44_18_f, X_44_18, X_44_21, X_44_22, X_44_23, X_44_26, X_44_27, X_44_28, X_44_31, X_44_32, X_44_33, X_44_36_t, X_44_36_f, X_44_36, X_44_39, X_44_40, X_44_41, X_44_44, X_44_45, X_44_46, X_44_47, X_44_50, X_44_51, X_44_52, X_44_55, X_44_56, X_44_59, X_44_60, X_44_61, X_44_64, X_44_65, X_44_66, X_44_67, X_44_70, S_isRow_t, pushR_some, r1_0_0, Int.toNat_natCast, hR.1, S_isMissing_f, S_found, fixp_i, fixp_n]
    · rw [C_129]
      simp (disch := omega) only [X_129_0, X_129_1, X_129_4_t, X_129_4_f, X_129_4, X_129_7, X_129_8, X_129_9, X_129_10, X_129_13, X_129_14, X_129_15_t, X_129_15_f, X_129_15, X_129_18, X_129_19, X_129_20, X_129_23, X_129_24, X_129_25, X_129_28, X_129_29, X_129_30_t, X_129_30_f, X_129_30, X_129_33, X_129_34, X_129_35, X_129_38, X_129_39, X_129_40, X_129_41, X_129_42, X_129_46, X_129_47, X_129_50, X_129_51, X_129_52_t, X_129_52_f, X_129_52, X_129_55, X_129_56, X_129_57, X_129_60, X_129_62, X_129_63, X_129_64, X_129_66, X_129_67, X_129_68, X_129_69, X_129_70, X_129_71, X_129_74, X_129_77, X_129_78, X_129_79, X_129_80, X_129_83, X_129_84, X_129_85, X_129_86, X_129_87, X_129_88, X_129_91, S3_isRow_t, pushR_some, r1_63_4, r1_63_5, Int.toNat_natCast, S3_finds, fnd_o, fixp_i, fixp_n]
  have hb : ∀ k : Nat, (k : Int) < h (22 + 2 * r) 2 → -2147483648 ≤ h (22 + 2 * r + 1) k ∧ h (22 + 2 * r + 1) k < 2147483648 := fun k hk => by
    rw [q23, (R5 k (by omega)).1]
    exact (R5 k (by omega)).2
  have hb2 : ∀ k : Nat, (k : Int) < h 68 r → -2147483648 ≤ h 67 (40 * r + k) ∧ h 67 (40 * r + k) < 2147483648 := fun k hk => (R5 k hk).2
  have eS : sumF (h (22 + 2 * r + 1)) (h (22 + 2 * r) 2).toNat 0 0 = sumF (fun k => h 67 (40 * r + k)) (h 68 r).toNat 0 0 := by
    rw [R1]
    exact sumF_congr (fun c c1 c2 => by rw [q23]; exact (R5 c (by omega)).1)
  have hS := sumF_bd (g := fun k => h 67 (40 * r + k)) (n := (h 68 r).toNat) (i := 0) (a := 0) (fun c c1 c2 => hb2 c (by omega))
  have hcs : ∀ Q, call 29 7 [.inr (.inr (some (22 + 2 * r)))] G1 h Q = Q (some (.inr (.inl (sumF (fun k => h 67 (40 * r + k)) (h 68 r).toNat 0 0)))) G1 h := fun Q => by rw [S_sum (by omega) hw (by omega) hb, eS]
  generalize eT : sumF (fun k => h 67 (40 * r + k)) (h 68 r).toNat 0 0 = S at hS hcs
  have hv : -2147483648 ≤ Int.tdiv S (h 68 r) ∧ Int.tdiv S (h 68 r) < 2147483648 := tdiv_bd (by omega) (by omega) (by omega)
  refine OpI_ask (v := Int.tdiv S (h 68 r)) hv H (fun Q => ?_) (fun Q => ?_)
  · rw [C_44]
    simp (disch := omega) only [X_44_0, X_44_1, X_44_4_t, X_44_4_f, X_44_4, X_44_7, X_44_8, X_44_9, X_44_10, X_44_13, X_44_14, X_44_15, X_44_18_t, X_44_18_f, X_44_18, X_44_21, X_44_22, X_44_23, X_44_26, X_44_27, X_44_28, X_44_31, X_44_32, X_44_33, X_44_36_t, X_44_36_f, X_44_36, X_44_39, X_44_40, X_44_41, X_44_44, X_44_45, X_44_46, X_44_47, X_44_50, X_44_51, X_44_52, X_44_55, X_44_56, X_44_59, X_44_60, X_44_61, X_44_64, X_44_65, X_44_66, X_44_67, X_44_70, X_44_65_n, S_isRow_t, pushR_some, r1_0_0, Int.toNat_natCast, hR.1, S_isMissing_f, hcs, R1, S_told]
  · have w67 : (put h 0 10 (Int.tdiv S (h 68 r))) 67 = h 67 := put_row (by omega)
    have w68 : (put h 0 10 (Int.tdiv S (h 68 r))) 68 = h 68 := put_row (by omega)
    generalize put h 0 10 (Int.tdiv S (h 68 r)) = h2 at w67 w68 ⊢
    have q := L3_mean (d := 29) (r := r) (h := h2) (Q := Q) hr6 (by rw [w67, w68]; exact hb2) (by rw [w68]; exact R4) (h 68 r).toNat 0 0 (by rw [w68]; omega)
    rw [w67, w68, eT] at q
    rw [C_129]
    simp (disch := omega) only [X_129_0, X_129_1, X_129_4_t, X_129_4_f, X_129_4, X_129_7, X_129_8, X_129_9, X_129_10, X_129_13, X_129_14, X_129_15_t, X_129_15_f, X_129_15, X_129_18, X_129_19, X_129_20, X_129_23, X_129_24, X_129_25, X_129_28, X_129_29, X_129_30_t, X_129_30_f, X_129_30, X_129_33, X_129_34, X_129_35, X_129_38, X_129_39, X_129_40, X_129_41, X_129_42, X_129_46, X_129_47, X_129_50, X_129_51, X_129_52_t, X_129_52_f, X_129_52, X_129_55, X_129_56, X_129_57, X_129_60, X_129_62, X_129_63, X_129_64, X_129_66, X_129_67, X_129_68, X_129_69, X_129_70, X_129_71, X_129_74, X_129_77, X_129_78, X_129_79, X_129_80, X_129_83, X_129_84, X_129_85, X_129_86, X_129_87, X_129_88, X_129_91, S3_isRow_t, pushR_some, r1_63_4, r1_63_5, Int.toNat_natCast, w68, fixp_i, fixp_n, fixp_r]
    refine Eq.trans q ?_
    simp (disch := omega) only [X_129_0, X_129_1, X_129_4_t, X_129_4_f, X_129_4, X_129_7, X_129_8, X_129_9, X_129_10, X_129_13, X_129_14, X_129_15_t, X_129_15_f, X_129_15, X_129_18, X_129_19, X_129_20, X_129_23, X_129_24, X_129_25, X_129_28, X_129_29, X_129_30_t, X_129_30_f, X_129_30, X_129_33, X_129_34, X_129_35, X_129_38, X_129_39, X_129_40, X_129_41, X_129_42, X_129_46, X_129_47, X_129_50, X_129_51, X_129_52_t, X_129_52_f, X_129_52, X_129_55, X_129_56, X_129_57, X_129_60, X_129_62, X_129_63, X_129_64, X_129_66, X_129_67, X_129_68, X_129_69, X_129_70, X_129_71, X_129_74, X_129_77, X_129_78, X_129_79, X_129_80, X_129_83, X_129_84, X_129_85, X_129_86, X_129_87, X_129_88, X_129_91, X_129_86_n, S3_isRow_t, pushR_some, r1_63_4, r1_63_5, Int.toNat_natCast, w68, S3_asks]
theorem L3_text {d r m : Nat} {h : AH} {Q : Option AV → AG → AH → Prop} (hr : r < 4) (hm : m ≤ 60) : ∀ (n i : Nat), i + n = m → wp d 130 34 [some (.inr (.inr (some 63))), some (.inl (r : Int)), some (.inl (m : Int)), some (.inl (i : Int))] [] G1 (setR h 69 (blk (h 69) (60 * r) i (fun _ => 32))) Q = Q (some (.inl (m : Int))) G1 (setR h 69 (blk (h 69) (60 * r) m (fun _ => 32))) := by
  intro n
  have g0 := g1_63
  have g1 := g1_69
  induction n with
  | zero =>
    intro i hi
    obtain rfl : i = m := by omega
    simp (disch := omega) only [X_130_34, X_130_0, X_130_1, X_130_4_t, X_130_4_f, X_130_4, X_130_7, X_130_8, X_130_10_t, X_130_10_f, X_130_10, X_130_13, X_130_14, X_130_15, X_130_16_t, X_130_16_f, X_130_16, X_130_19, X_130_20, X_130_21, X_130_24, X_130_25, X_130_26, X_130_29, X_130_30, X_130_31, X_130_32, X_130_33, X_130_35, X_130_36_t, X_130_36_f, X_130_36, X_130_39, X_130_40, X_130_43, X_130_45, X_130_46, X_130_47, X_130_48, X_130_49, X_130_51, X_130_52, X_130_55, X_130_58, X_130_59]
  | succ n ih =>
    intro i hi
    rw [X_130_34]
    simp (disch := omega) only [X_130_0, X_130_1, X_130_4_t, X_130_4_f, X_130_4, X_130_7, X_130_8, X_130_10_t, X_130_10_f, X_130_10, X_130_13, X_130_14, X_130_15, X_130_16_t, X_130_16_f, X_130_16, X_130_19, X_130_20, X_130_21, X_130_24, X_130_25, X_130_26, X_130_29, X_130_30, X_130_31, X_130_32, X_130_33, X_130_35, X_130_36_t, X_130_36_f, X_130_36, X_130_39, X_130_40, X_130_43, X_130_45, X_130_46, X_130_47, X_130_48, X_130_49, X_130_51, X_130_52, X_130_55, X_130_58, X_130_59, r1_63_6, put_set, setR_s, setR_2, tn60, fixp_i, natS]
    rw [← ih (i + 1) (by omega), ← blk_put (f := fun _ => 32)]
theorem Op_text {r m : Int} (h_r : -2147483648 ≤ r ∧ r < 2147483648) (h_m : -2147483648 ≤ m ∧ m < 2147483648) : OpI 45 130 [.inl r, .inl m] := by
  intro n h H hn
  have g0 := g1_0
  have g1 := g1_2
  have g63 := g1_63
  have g68 := g1_70
  have g67 := g1_69
  by_cases h1 : 0 ≤ r ∧ r < 4
  case neg =>
    refine OpI_same (r := -1) (by omega) H (fun Q => ?_) (fun Q => ?_)
    · rw [C_45]
      simp (disch := omega) only [X_45_0, X_45_1, X_45_4_t, X_45_4_f, X_45_4, X_45_7, X_45_8, X_45_10_t, X_45_10_f, X_45_10, X_45_13, X_45_14, X_45_15, X_45_16_t, X_45_16_f, X_45_16, X_45_19, X_45_20, X_45_21, X_45_24, X_45_25, X_45_26, X_45_29, X_45_30, X_45_31, X_45_32, X_45_35, X_45_36, S_isText_f, pushR_some]
    · rw [C_130]
      simp (disch := omega) only [X_130_0, X_130_1, X_130_4_t, X_130_4_f, X_130_4, X_130_7, X_130_8, X_130_10_t, X_130_10_f, X_130_10, X_130_13, X_130_14, X_130_15, X_130_16_t, X_130_16_f, X_130_16, X_130_19, X_130_20, X_130_21, X_130_24, X_130_25, X_130_26, X_130_29, X_130_30, X_130_31, X_130_32, X_130_33, X_130_35, X_130_36_t, X_130_36_f, X_130_36, X_130_39, X_130_40, X_130_43, X_130_45, X_130_46, X_130_47, X_130_48, X_130_49, X_130_51, X_130_52, X_130_55, X_130_58, X_130_59, S3_isText_f, pushR_some]
  obtain ⟨r, rfl⟩ := nat_of h1.1
  have hr6 : r < 4 := by omega
  have hR := texts_r hr6
  have hL := rwL_t hr6
  have hw := hR.2
  have hs := rw_s hw
  have R := H.2.2.2.1 r hr6
  unfold TxtR at R
  obtain ⟨R1, R2, R3, R4, R5⟩ := R
  by_cases h2 : m ≤ 60
  case neg =>
    refine OpI_same (r := -1) (by omega) H (fun Q => ?_) (fun Q => ?_)
    · rw [C_45]
      simp (disch := omega) only [X_45_0, X_45_1, X_45_4_t, X_45_4_f, X_45_4, X_45_7, X_45_8, X_45_10_t, X_45_10_f, X_45_10, X_45_13, X_45_14, X_45_15, X_45_16_t, X_45_16_f, X_45_16, X_45_19, X_45_20, X_45_21, X_45_24, X_45_25, X_45_26, X_45_29, X_45_30, X_45_31, X_45_32, X_45_35, X_45_36, S_isText_t, pushR_some]
    · rw [C_130]
      simp (disch := omega) only [X_130_0, X_130_1, X_130_4_t, X_130_4_f, X_130_4, X_130_7, X_130_8, X_130_10_t, X_130_10_f, X_130_10, X_130_13, X_130_14, X_130_15, X_130_16_t, X_130_16_f, X_130_16, X_130_19, X_130_20, X_130_21, X_130_24, X_130_25, X_130_26, X_130_29, X_130_30, X_130_31, X_130_32, X_130_33, X_130_35, X_130_36_t, X_130_36_f, X_130_36, X_130_39, X_130_40, X_130_43, X_130_45, X_130_46, X_130_47, X_130_48, X_130_49, X_130_51, X_130_52, X_130_55, X_130_58, X_130_59, S3_isText_t, pushR_some]
  by_cases h3 : m < 0
  case pos =>
    refine OpI_find (w := 5) (by omega) H (fun Q => ?_) (fun Q => ?_)
    · rw [C_45]
      simp (disch := omega) only [X_45_0, X_45_1, X_45_4_t, X_45_4_f, X_45_4, X_45_7, X_45_8, X_45_10_t, X_45_10_f, X_45_10, X_45_13, X_45_14, X_45_15, X_45_16_t, X_45_16_f, X_45_16, X_45_19, X_45_20, X_45_21, X_45_24, X_45_25, X_45_26, X_45_29, X_45_30, X_45_31, X_45_32, X_45_35, X_45_36, S_isText_t, S_found, pushR_some]
    · rw [C_130]
      simp (disch := omega) only [X_130_0, X_130_1, X_130_4_t, X_130_4_f, X_130_4, X_130_7, X_130_8, X_130_10_t, X_130_10_f, X_130_10, X_130_13, X_130_14, X_130_15, X_130_16_t, X_130_16_f, X_130_16, X_130_19, X_130_20, X_130_21, X_130_24, X_130_25, X_130_26, X_130_29, X_130_30, X_130_31, X_130_32, X_130_33, X_130_35, X_130_36_t, X_130_36_f, X_130_36, X_130_39, X_130_40, X_130_43, X_130_45, X_130_46, X_130_47, X_130_48, X_130_49, X_130_51, X_130_52, X_130_55, X_130_58, X_130_59, S3_isText_t, S3_finds, pushR_some]
  obtain ⟨m, rfl⟩ := nat_of (x := m) (by omega)
  generalize e2 : put (rbg h (34 + 2 * r) (m : Int)) 70 r (m : Int) = h2
  generalize e3 : setR h2 69 (blk (h2 69) (60 * r) m (fun _ => 32)) = h3
  refine ⟨m, rbg h (34 + 2 * r) (m : Int), h3, by omega, fun Q => ?_, fun Q => ?_, INV_same (INV_txt hr6 H (fun a a2 a3 a4 a5 => ?_) (fun s hs hz => ?_) (fun s hs => ?_) ?_)⟩
  · rw [C_45]
    simp (disch := omega) only [X_45_0, X_45_1, X_45_4_t, X_45_4_f, X_45_4, X_45_7, X_45_8, X_45_10_t, X_45_10_f, X_45_10, X_45_13, X_45_14, X_45_15, X_45_16_t, X_45_16_f, X_45_16, X_45_19, X_45_20, X_45_21, X_45_24, X_45_25, X_45_26, X_45_29, X_45_30, X_45_31, X_45_32, X_45_35, X_45_36, S_isText_t, pushR_some, r1_0_1, Int.toNat_natCast, hR.1, S_rbegin, pushR_none]
  · rw [C_130]
    simp (disch := omega) only [X_130_0, X_130_1, X_130_4_t, X_130_4_f, X_130_4, X_130_7, X_130_8, X_130_10_t, X_130_10_f, X_130_10, X_130_13, X_130_14, X_130_15, X_130_16_t, X_130_16_f, X_130_16, X_130_19, X_130_20, X_130_21, X_130_24, X_130_25, X_130_26, X_130_29, X_130_30, X_130_31, X_130_32, X_130_33, X_130_35, X_130_36_t, X_130_36_f, X_130_36, X_130_39, X_130_40, X_130_43, X_130_45, X_130_46, X_130_47, X_130_48, X_130_49, X_130_51, X_130_52, X_130_55, X_130_58, X_130_59, S3_isText_t, pushR_some, r1_63_6, r1_63_7, Int.toNat_natCast, fixp_i, e2]
    have q := L3_text (d := 29) (h := h2) (Q := Q) hr6 (show m ≤ 60 by omega) m 0 (by omega)
    rw [blk_0, setR_e, e3] at q
    exact q
  · rw [← e3, setR_n a4, ← e2, put_row a5, rbg_o a2 (by omega)]
  · rw [← e3, setR_n (by omega), ← e2, put_nk hz, rbg_o (by omega) (by omega)]
  · rw [← e3, setR_s, blk_out (by omega), ← e2, put_row (by omega), rbg_o (by omega) (by omega)]
  · have y68 : h3 70 r = (m : Int) := by rw [← e3, setR_n (by omega), ← e2, put_s]
    unfold TxtR
    rw [y68]
    refine ⟨?_, ?_, by omega, by omega, fun k hk => ?_⟩
    · rw [← e3, setR_n (by omega), ← e2, put_row (by omega), rbg_2]
    · rw [← e3, setR_n (by omega), ← e2, put_row (by omega), rbg_k (by omega), R2]
    · have y1 : h3 (35 + 2 * r) k = 32 := by rw [← e3, setR_n (by omega), ← e2, put_row (by omega), ← q35, rbg_p (by omega), R2]
      have y2 : h3 69 (60 * r + k) = 32 := by rw [← e3, setR_s, blk_in (by omega)]
      rw [y1, y2]
      omega
