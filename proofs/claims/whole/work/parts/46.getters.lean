/-! 46: exchange, shows, what was told -/
theorem S_exDeed {d c e : Nat} {G : AG} {h : AH} {Q : Option AV → AG → AH → Prop} (hd : 1 ≤ d) : call d 104 [.inl (c : Int), .inl (e : Int)] G h Q = Q (some (.inl (4 + 14 * (c : Int) + (e : Int)))) G h := by
  obtain ⟨d, rfl, hd2⟩ := pos_of hd
  rw [C_104]
  simp (disch := omega) only [X_104_0, X_104_1, X_104_3, X_104_4, X_104_5, X_104_6, X_104_7, X_104_8]
theorem cd_ex {c e : Nat} : cd (4 + 14 * (c : Int) + (e : Int)) = 100 + 14 * (c : Int) + (e : Int) := by unfold cd; rw [if_neg (by omega), if_neg (by omega)]; omega
theorem Op_exchange {x z : Int} (h_x : -2147483648 ≤ x ∧ x < 2147483648) (h_z : -2147483648 ≤ z ∧ z < 2147483648) : OpI 53 160 [.inl x, .inl z] := by
  intro n h H hn
  have g0 := g1_0
  have g3 := g1_3
  have g63 := g1_63
  have g64 := g1_64
  have t3 : isToy 3 := Or.inl rfl
  rcases LIV_c H with L | L
  · refine OpI_same (r := -4) (by omega) H (fun Q => ?_) (fun Q => ?_)
    · rw [C_53]
      simp (disch := omega) only [X_53_0, X_53_1, X_53_4, X_53_7_t, X_53_7_f, X_53_7, X_53_10, X_53_12, X_53_13, X_53_14, X_53_17_t, X_53_17_f, X_53_17, X_53_20, X_53_21, X_53_24_t, X_53_24_f, X_53_24, X_53_27, X_53_28, X_53_29_t, X_53_29_f, X_53_29, X_53_32, X_53_33, X_53_34, X_53_35, X_53_38, X_53_41, X_53_43_t, X_53_43_f, X_53_43, X_53_46, X_53_48, X_53_49, X_53_50, X_53_53, X_53_54, X_53_55, X_53_58, X_53_61, X_53_62, X_53_65, X_53_66, X_53_69, r1_0_2]
    · rw [C_160]
      simp (disch := omega) only [X_160_0, X_160_1, X_160_4_t, X_160_4_f, X_160_4, X_160_7, X_160_9, X_160_10, X_160_11, X_160_14_t, X_160_14_f, X_160_14, X_160_17, X_160_18, X_160_21_t, X_160_21_f, X_160_21, X_160_24, X_160_25, X_160_26_t, X_160_26_f, X_160_26, X_160_29, X_160_30, X_160_31, X_160_32, X_160_35, X_160_37, X_160_38, X_160_40_t, X_160_40_f, X_160_40, X_160_43, X_160_45, X_160_46, X_160_47, X_160_49, X_160_51, X_160_52, X_160_53, X_160_54, X_160_55, X_160_56, X_160_59, X_160_60, X_160_63, X_160_65, X_160_66, X_160_67, X_160_68]
  obtain ⟨L1, L2, L3⟩ := L
  by_cases h1 : 0 ≤ x ∧ x < 14
  case neg =>
    refine OpI_same (r := -1) (by omega) H (fun Q => ?_) (fun Q => ?_)
    · rw [C_53]
      simp (disch := omega) only [X_53_0, X_53_1, X_53_4, X_53_7_t, X_53_7_f, X_53_7, X_53_10, X_53_12, X_53_13, X_53_14, X_53_17_t, X_53_17_f, X_53_17, X_53_20, X_53_21, X_53_24_t, X_53_24_f, X_53_24, X_53_27, X_53_28, X_53_29_t, X_53_29_f, X_53_29, X_53_32, X_53_33, X_53_34, X_53_35, X_53_38, X_53_41, X_53_43_t, X_53_43_f, X_53_43, X_53_46, X_53_48, X_53_49, X_53_50, X_53_53, X_53_54, X_53_55, X_53_58, X_53_61, X_53_62, X_53_65, X_53_66, X_53_69, r1_0_2, S_isCell_f, pushR_some]
    · rw [C_160]
      simp (disch := omega) only [X_160_0, X_160_1, X_160_4_t, X_160_4_f, X_160_4, X_160_7, X_160_9, X_160_10, X_160_11, X_160_14_t, X_160_14_f, X_160_14, X_160_17, X_160_18, X_160_21_t, X_160_21_f, X_160_21, X_160_24, X_160_25, X_160_26_t, X_160_26_f, X_160_26, X_160_29, X_160_30, X_160_31, X_160_32, X_160_35, X_160_37, X_160_38, X_160_40_t, X_160_40_f, X_160_40, X_160_43, X_160_45, X_160_46, X_160_47, X_160_49, X_160_51, X_160_52, X_160_53, X_160_54, X_160_55, X_160_56, X_160_59, X_160_60, X_160_63, X_160_65, X_160_66, X_160_67, X_160_68, S3_isCell_f, pushR_some]
  by_cases h2 : 0 ≤ z ∧ z < 14
  case neg =>
    refine OpI_same (r := -1) (by omega) H (fun Q => ?_) (fun Q => ?_)
    · rw [C_53]
      simp (disch := omega) only [X_53_0, X_53_1, X_53_4, X_53_7_t, X_53_7_f, X_53_7, X_53_10, X_53_12, X_53_13, X_53_14, X_53_17_t, X_53_17_f, X_53_17, X_53_20, X_53_21, X_53_24_t, X_53_24_f, X_53_24, X_53_27, X_53_28, X_53_29_t, X_53_29_f, X_53_29, X_53_32, X_53_33, X_53_34, X_53_35, X_53_38, X_53_41, X_53_43_t, X_53_43_f, X_53_43, X_53_46, X_53_48, X_53_49, X_53_50, X_53_53, X_53_54, X_53_55, X_53_58, X_53_61, X_53_62, X_53_65, X_53_66, X_53_69, r1_0_2, S_isCell_t, S_isCell_f, pushR_some]
    · rw [C_160]
      simp (disch := omega) only [X_160_0, X_160_1, X_160_4_t, X_160_4_f, X_160_4, X_160_7, X_160_9, X_160_10, X_160_11, X_160_14_t, X_160_14_f, X_160_14, X_160_17, X_160_18, X_160_21_t, X_160_21_f, X_160_21, X_160_24, X_160_25, X_160_26_t, X_160_26_f, X_160_26, X_160_29, X_160_30, X_160_31, X_160_32, X_160_35, X_160_37, X_160_38, X_160_40_t, X_160_40_f, X_160_40, X_160_43, X_160_45, X_160_46, X_160_47, X_160_49, X_160_51, X_160_52, X_160_53, X_160_54, X_160_55, X_160_56, X_160_59, X_160_60, X_160_63, X_160_65, X_160_66, X_160_67, X_160_68, S3_isCell_t, S3_isCell_f, pushR_some]
  by_cases h3 : x = z
  case pos =>
    refine OpI_same (r := -1) (by omega) H (fun Q => ?_) (fun Q => ?_)
    · rw [C_53]
      simp (disch := omega) only [X_53_0, X_53_1, X_53_4, X_53_7_t, X_53_7_f, X_53_7, X_53_10, X_53_12, X_53_13, X_53_14, X_53_17_t, X_53_17_f, X_53_17, X_53_20, X_53_21, X_53_24_t, X_53_24_f, X_53_24, X_53_27, X_53_28, X_53_29_t, X_53_29_f, X_53_29, X_53_32, X_53_33, X_53_34, X_53_35, X_53_38, X_53_41, X_53_43_t, X_53_43_f, X_53_43, X_53_46, X_53_48, X_53_49, X_53_50, X_53_53, X_53_54, X_53_55, X_53_58, X_53_61, X_53_62, X_53_65, X_53_66, X_53_69, r1_0_2, S_isCell_t, pushR_some]
    · rw [C_160]
      simp (disch := omega) only [X_160_0, X_160_1, X_160_4_t, X_160_4_f, X_160_4, X_160_7, X_160_9, X_160_10, X_160_11, X_160_14_t, X_160_14_f, X_160_14, X_160_17, X_160_18, X_160_21_t, X_160_21_f, X_160_21, X_160_24, X_160_25, X_160_26_t, X_160_26_f, X_160_26, X_160_29, X_160_30, X_160_31, X_160_32, X_160_35, X_160_37, X_160_38, X_160_40_t, X_160_40_f, X_160_40, X_160_43, X_160_45, X_160_46, X_160_47, X_160_49, X_160_51, X_160_52, X_160_53, X_160_54, X_160_55, X_160_56, X_160_59, X_160_60, X_160_63, X_160_65, X_160_66, X_160_67, X_160_68, S3_isCell_t, pushR_some]
  have hf := FUL_ty L3
  have hT := L3.1
  have b := L3.2.2.1
  have b1 := b.1
  have b2 := b.2.1
  have b3 := b.2.2.1
  by_cases h4 : h 64 28 < 40
  case neg =>
    refine OpI_same (r := -2) (by omega) H (fun Q => ?_) (fun Q => ?_)
    · rw [C_53]
      simp (disch := omega) only [X_53_0, X_53_1, X_53_4, X_53_7_t, X_53_7_f, X_53_7, X_53_10, X_53_12, X_53_13, X_53_14, X_53_17_t, X_53_17_f, X_53_17, X_53_20, X_53_21, X_53_24_t, X_53_24_f, X_53_24, X_53_27, X_53_28, X_53_29_t, X_53_29_f, X_53_29, X_53_32, X_53_33, X_53_34, X_53_35, X_53_38, X_53_41, X_53_43_t, X_53_43_f, X_53_43, X_53_46, X_53_48, X_53_49, X_53_50, X_53_53, X_53_54, X_53_55, X_53_58, X_53_61, X_53_62, X_53_65, X_53_66, X_53_69, r1_0_2, S_isCell_t, pushR_some]
    · rw [C_160]
      simp (disch := omega) only [X_160_0, X_160_1, X_160_4_t, X_160_4_f, X_160_4, X_160_7, X_160_9, X_160_10, X_160_11, X_160_14_t, X_160_14_f, X_160_14, X_160_17, X_160_18, X_160_21_t, X_160_21_f, X_160_21, X_160_24, X_160_25, X_160_26_t, X_160_26_f, X_160_26, X_160_29, X_160_30, X_160_31, X_160_32, X_160_35, X_160_37, X_160_38, X_160_40_t, X_160_40_f, X_160_40, X_160_43, X_160_45, X_160_46, X_160_47, X_160_49, X_160_51, X_160_52, X_160_53, X_160_54, X_160_55, X_160_56, X_160_59, X_160_60, X_160_63, X_160_65, X_160_66, X_160_67, X_160_68, r1_63_0, S3_isCell_t, pushR_some, Int.reduceToNat]
  obtain ⟨c, rfl⟩ := nat_of h1.1
  obtain ⟨e, rfl⟩ := nat_of h2.1
  have hx : xOk (4 + 14 * (c : Int) + (e : Int)) := by unfold xOk; omega
  obtain ⟨k2, c2, w64, w63, w1000, T2, w38, wo, w9, w37, I2, F2⟩ := deed2 (d := 29) (by omega) H L1 L2 L3 h4 hx
  have hy := cd_ok hx
  rw [cd_ex] at T2 I2 F2 hy
  generalize ey : (100 + 14 * (c : Int) + (e : Int)) = y at T2 I2 F2 hy
  have hf2 : tyOk (dF (h 64) y) 41 := dF_ty hy hf
  have bl := hf2.1.1 c (by omega)
  have w63' : k2 63 1 = 1 := by rw [w63, L1]
  have cB : k2 (3 + 5) c = dF (h 64) y (69 + c) := T2.2.2.1 c (by omega)
  have cD : ∀ Q, call 29 150 [.inr (.inr (some 63)), .inl y] G1 k2 Q = Q none G1 (setR k2 64 (ddF (h 64) y)) := fun Q => by rw [S3_does (by omega) hy (by rw [w64]; omega) (by rw [w64]; exact hf.1), w64]
  have ed : ddF (h 64) y (69 + c) = dF (h 64) y (69 + c) := by unfold ddF; rw [putR_n (by omega), putR_n (by omega)]
  refine ⟨dF (h 64) y (69 + c), k2, setR k2 64 (ddF (h 64) y), by omega, fun Q => ?_, fun Q => ?_, INV_same I2⟩
  · rw [C_53]
    simp (disch := omega) only [X_53_0, X_53_1, X_53_4, X_53_7_t, X_53_7_f, X_53_7, X_53_10, X_53_12, X_53_13, X_53_14, X_53_17_t, X_53_17_f, X_53_17, X_53_20, X_53_21, X_53_24_t, X_53_24_f, X_53_24, X_53_27, X_53_28, X_53_29_t, X_53_29_f, X_53_29, X_53_32, X_53_33, X_53_34, X_53_35, X_53_38, X_53_41, X_53_43_t, X_53_43_f, X_53_43, X_53_46, X_53_48, X_53_49, X_53_50, X_53_53, X_53_54, X_53_55, X_53_58, X_53_61, X_53_62, X_53_65, X_53_66, X_53_69, r1_0_2, S_isCell_t, S_exDeed, pushR_some, pushR_none, c2, S_beadIn, Int.toNat_natCast, cB]
  · rw [C_160]
    simp (disch := omega) only [X_160_0, X_160_1, X_160_4_t, X_160_4_f, X_160_4, X_160_7, X_160_9, X_160_10, X_160_11, X_160_14_t, X_160_14_f, X_160_14, X_160_17, X_160_18, X_160_21_t, X_160_21_f, X_160_21, X_160_24, X_160_25, X_160_26_t, X_160_26_f, X_160_26, X_160_29, X_160_30, X_160_31, X_160_32, X_160_35, X_160_37, X_160_38, X_160_40_t, X_160_40_f, X_160_40, X_160_43, X_160_45, X_160_46, X_160_47, X_160_49, X_160_51, X_160_52, X_160_53, X_160_54, X_160_55, X_160_56, X_160_59, X_160_60, X_160_63, X_160_65, X_160_66, X_160_67, X_160_68, r1_63_0, S3_isCell_t, pushR_some, pushR_none, Int.reduceToNat, w64, ey, cD, tn69b, setR_s, ed]
theorem Op_shows {i c b t : Int} (h_i : -2147483648 ≤ i ∧ i < 2147483648) (h_c : -2147483648 ≤ c ∧ c < 2147483648) (h_b : -2147483648 ≤ b ∧ b < 2147483648) (h_t : -2147483648 ≤ t ∧ t < 2147483648) : OpI 57 165 [.inl i, .inl c, .inl b, .inl t] := by
  intro n h H hn
  have g0 := g1_0
  have g63 := g1_63
  have g64 := g1_64
  have t3 : isToy 3 := Or.inl rfl
  have s3 := toy_s t3
  have r3 := toy_r t3
  rcases LIV_c H with L | L
  · refine OpI_same (r := -1) (by omega) H (fun Q => ?_) (fun Q => ?_)
    · rw [C_57]
      simp (disch := omega) only [X_57_0, X_57_1, X_57_2, X_57_5_t, X_57_5_f, X_57_5, X_57_8, X_57_9, X_57_12_t, X_57_12_f, X_57_12, X_57_15, X_57_16, X_57_17, X_57_19, X_57_22_t, X_57_22_f, X_57_22, X_57_25, X_57_27, X_57_28, X_57_30, X_57_33_t, X_57_33_f, X_57_33, X_57_36, X_57_37, X_57_38, X_57_39, X_57_42, X_57_45, X_57_46, X_57_47, X_57_48, X_57_51, X_57_54, X_57_55, X_57_56, X_57_57, X_57_58, X_57_60, X_57_63, S_isBead_n, pushR_some]
    · rw [C_165]
      simp (disch := omega) only [X_165_0, X_165_1, X_165_2, X_165_5_t, X_165_5_f, X_165_5, X_165_8, X_165_9, X_165_12_t, X_165_12_f, X_165_12, X_165_15, X_165_16, X_165_17, X_165_18, X_165_21, X_165_24_t, X_165_24_f, X_165_24, X_165_27, X_165_29, X_165_30, X_165_31, X_165_34, X_165_37_t, X_165_37_f, X_165_37, X_165_40, X_165_41, X_165_42, X_165_43, X_165_46, X_165_47, X_165_48, X_165_49, X_165_50, X_165_51, X_165_54, X_165_56, X_165_57, X_165_58, X_165_59, X_165_60, X_165_61, X_165_63, X_165_66, S3_isBead_n, pushR_some]
  obtain ⟨L1, L2, L3⟩ := L
  by_cases h1 : 0 ≤ i ∧ i < 14
  case neg =>
    refine OpI_same (r := -1) (by omega) H (fun Q => ?_) (fun Q => ?_)
    · rw [C_57]
      simp (disch := omega) only [X_57_0, X_57_1, X_57_2, X_57_5_t, X_57_5_f, X_57_5, X_57_8, X_57_9, X_57_12_t, X_57_12_f, X_57_12, X_57_15, X_57_16, X_57_17, X_57_19, X_57_22_t, X_57_22_f, X_57_22, X_57_25, X_57_27, X_57_28, X_57_30, X_57_33_t, X_57_33_f, X_57_33, X_57_36, X_57_37, X_57_38, X_57_39, X_57_42, X_57_45, X_57_46, X_57_47, X_57_48, X_57_51, X_57_54, X_57_55, X_57_56, X_57_57, X_57_58, X_57_60, X_57_63, S_isBead_f, pushR_some]
    · rw [C_165]
      simp (disch := omega) only [X_165_0, X_165_1, X_165_2, X_165_5_t, X_165_5_f, X_165_5, X_165_8, X_165_9, X_165_12_t, X_165_12_f, X_165_12, X_165_15, X_165_16, X_165_17, X_165_18, X_165_21, X_165_24_t, X_165_24_f, X_165_24, X_165_27, X_165_29, X_165_30, X_165_31, X_165_34, X_165_37_t, X_165_37_f, X_165_37, X_165_40, X_165_41, X_165_42, X_165_43, X_165_46, X_165_47, X_165_48, X_165_49, X_165_50, X_165_51, X_165_54, X_165_56, X_165_57, X_165_58, X_165_59, X_165_60, X_165_61, X_165_63, X_165_66, S3_isBead_f, pushR_some]
  by_cases h2 : 0 ≤ c ∧ c < 14
  case neg =>
    refine OpI_same (r := -1) (by omega) H (fun Q => ?_) (fun Q => ?_)
    · rw [C_57]
      simp (disch := omega) only [X_57_0, X_57_1, X_57_2, X_57_5_t, X_57_5_f, X_57_5, X_57_8, X_57_9, X_57_12_t, X_57_12_f, X_57_12, X_57_15, X_57_16, X_57_17, X_57_19, X_57_22_t, X_57_22_f, X_57_22, X_57_25, X_57_27, X_57_28, X_57_30, X_57_33_t, X_57_33_f, X_57_33, X_57_36, X_57_37, X_57_38, X_57_39, X_57_42, X_57_45, X_57_46, X_57_47, X_57_48, X_57_51, X_57_54, X_57_55, X_57_56, X_57_57, X_57_58, X_57_60, X_57_63, S_isBead_t, S_isCell_f, pushR_some]
    · rw [C_165]
      simp (disch := omega) only [X_165_0, X_165_1, X_165_2, X_165_5_t, X_165_5_f, X_165_5, X_165_8, X_165_9, X_165_12_t, X_165_12_f, X_165_12, X_165_15, X_165_16, X_165_17, X_165_18, X_165_21, X_165_24_t, X_165_24_f, X_165_24, X_165_27, X_165_29, X_165_30, X_165_31, X_165_34, X_165_37_t, X_165_37_f, X_165_37, X_165_40, X_165_41, X_165_42, X_165_43, X_165_46, X_165_47, X_165_48, X_165_49, X_165_50, X_165_51, X_165_54, X_165_56, X_165_57, X_165_58, X_165_59, X_165_60, X_165_61, X_165_63, X_165_66, S3_isBead_t, S3_isCell_f, pushR_some]
  by_cases h3 : 0 ≤ b ∧ b ≤ 99
  case neg =>
    refine OpI_same (r := -1) (by omega) H (fun Q => ?_) (fun Q => ?_)
    · rw [C_57]
      simp (disch := omega) only [X_57_0, X_57_1, X_57_2, X_57_5_t, X_57_5_f, X_57_5, X_57_8, X_57_9, X_57_12_t, X_57_12_f, X_57_12, X_57_15, X_57_16, X_57_17, X_57_19, X_57_22_t, X_57_22_f, X_57_22, X_57_25, X_57_27, X_57_28, X_57_30, X_57_33_t, X_57_33_f, X_57_33, X_57_36, X_57_37, X_57_38, X_57_39, X_57_42, X_57_45, X_57_46, X_57_47, X_57_48, X_57_51, X_57_54, X_57_55, X_57_56, X_57_57, X_57_58, X_57_60, X_57_63, S_isBead_t, S_isCell_t, S_isWithin_f, pushR_some]
    · rw [C_165]
      simp (disch := omega) only [X_165_0, X_165_1, X_165_2, X_165_5_t, X_165_5_f, X_165_5, X_165_8, X_165_9, X_165_12_t, X_165_12_f, X_165_12, X_165_15, X_165_16, X_165_17, X_165_18, X_165_21, X_165_24_t, X_165_24_f, X_165_24, X_165_27, X_165_29, X_165_30, X_165_31, X_165_34, X_165_37_t, X_165_37_f, X_165_37, X_165_40, X_165_41, X_165_42, X_165_43, X_165_46, X_165_47, X_165_48, X_165_49, X_165_50, X_165_51, X_165_54, X_165_56, X_165_57, X_165_58, X_165_59, X_165_60, X_165_61, X_165_63, X_165_66, S3_isBead_t, S3_isCell_t, S3_in_f, pushR_some]
  by_cases h4 : 0 ≤ t ∧ t ≤ 99
  case neg =>
    refine OpI_same (r := -1) (by omega) H (fun Q => ?_) (fun Q => ?_)
    · rw [C_57]
      simp (disch := omega) only [X_57_0, X_57_1, X_57_2, X_57_5_t, X_57_5_f, X_57_5, X_57_8, X_57_9, X_57_12_t, X_57_12_f, X_57_12, X_57_15, X_57_16, X_57_17, X_57_19, X_57_22_t, X_57_22_f, X_57_22, X_57_25, X_57_27, X_57_28, X_57_30, X_57_33_t, X_57_33_f, X_57_33, X_57_36, X_57_37, X_57_38, X_57_39, X_57_42, X_57_45, X_57_46, X_57_47, X_57_48, X_57_51, X_57_54, X_57_55, X_57_56, X_57_57, X_57_58, X_57_60, X_57_63, S_isBead_t, S_isCell_t, S_isWithin_t, S_isWithin_f, pushR_some]
    · rw [C_165]
      simp (disch := omega) only [X_165_0, X_165_1, X_165_2, X_165_5_t, X_165_5_f, X_165_5, X_165_8, X_165_9, X_165_12_t, X_165_12_f, X_165_12, X_165_15, X_165_16, X_165_17, X_165_18, X_165_21, X_165_24_t, X_165_24_f, X_165_24, X_165_27, X_165_29, X_165_30, X_165_31, X_165_34, X_165_37_t, X_165_37_f, X_165_37, X_165_40, X_165_41, X_165_42, X_165_43, X_165_46, X_165_47, X_165_48, X_165_49, X_165_50, X_165_51, X_165_54, X_165_56, X_165_57, X_165_58, X_165_59, X_165_60, X_165_61, X_165_63, X_165_66, S3_isBead_t, S3_isCell_t, S3_in_t, S3_in_f, pushR_some]
  obtain ⟨i, rfl⟩ := nat_of h1.1
  have hi : i < 14 := by omega
  have hf := FUL_ty L3
  have hT := L3.1
  have k1 := hT.1 i hi
  have k2 := hT.2.1 i hi
  have b1 := hf.2.2.1 i hi
  have b2 := hf.2.2.2.1 i hi
  have bs := sh_rng (k := h 64 i) (cl := h 64 (14 + i)) (c := c) (b := b) (t := t) (by omega)
  refine OpI_same (r := sh (h 64 i) (h 64 (14 + i)) c b t) (by omega) H (fun Q => ?_) (fun Q => ?_)
  · rw [C_57]
    simp (disch := omega) only [X_57_0, X_57_1, X_57_2, X_57_5_t, X_57_5_f, X_57_5, X_57_8, X_57_9, X_57_12_t, X_57_12_f, X_57_12, X_57_15, X_57_16, X_57_17, X_57_19, X_57_22_t, X_57_22_f, X_57_22, X_57_25, X_57_27, X_57_28, X_57_30, X_57_33_t, X_57_33_f, X_57_33, X_57_36, X_57_37, X_57_38, X_57_39, X_57_42, X_57_45, X_57_46, X_57_47, X_57_48, X_57_51, X_57_54, X_57_55, X_57_56, X_57_57, X_57_58, X_57_60, X_57_63, S_isBead_t, S_isCell_t, S_isWithin_t, pushR_some, r1_0_2, r3, Int.toNat_natCast, k1, k2, S_shown]
  · rw [C_165]
    simp (disch := omega) only [X_165_0, X_165_1, X_165_2, X_165_5_t, X_165_5_f, X_165_5, X_165_8, X_165_9, X_165_12_t, X_165_12_f, X_165_12, X_165_15, X_165_16, X_165_17, X_165_18, X_165_21, X_165_24_t, X_165_24_f, X_165_24, X_165_27, X_165_29, X_165_30, X_165_31, X_165_34, X_165_37_t, X_165_37_f, X_165_37, X_165_40, X_165_41, X_165_42, X_165_43, X_165_46, X_165_47, X_165_48, X_165_49, X_165_50, X_165_51, X_165_54, X_165_56, X_165_57, X_165_58, X_165_59, X_165_60, X_165_61, X_165_63, X_165_66, S3_isBead_t, S3_isCell_t, S3_in_t, pushR_some, r1_63_0, tn0b, tn14b, S3_showsAs]
theorem Op_asked : OpI 70 195 [] := by
  intro n h H hn
  have g0 := g1_0
  have g63 := g1_63
  have A := H.2.2.2.2.2.2.2.1
  refine OpI_same (r := h 63 10) A.2 H (fun Q => ?_) (fun Q => ?_)
  · rw [C_70]
    simp (disch := omega) only [X_70_0, X_70_1, X_70_4, A.1]
  · rw [C_195]
    simp (disch := omega) only [X_195_0, X_195_1, X_195_4]
theorem Op_upper : OpL 71 196 [] := by
  intro n h H hn
  have g0 := g1_0
  have g63 := g1_63
  have A := H.2.2.2.2.2.2.2.2.1
  refine ⟨h 63 11, h, h, fun Q => ?_, fun Q => ?_, INV_same H⟩
  · rw [C_71]
    simp (disch := omega) only [X_71_0, X_71_1, X_71_4, A.1]
  · rw [C_196]
    simp (disch := omega) only [X_196_0, X_196_1, X_196_4]
theorem Op_lower : OpL 72 197 [] := by
  intro n h H hn
  have g0 := g1_0
  have g63 := g1_63
  have A := H.2.2.2.2.2.2.2.2.2
  refine ⟨h 63 12, h, h, fun Q => ?_, fun Q => ?_, INV_same H⟩
  · rw [C_72]
    simp (disch := omega) only [X_72_0, X_72_1, X_72_4, A.1]
  · rw [C_197]
    simp (disch := omega) only [X_197_0, X_197_1, X_197_4]
theorem Op_finding : OpI 74 204 [] := by
  intro n h H hn
  have g0 := g1_0
  have g63 := g1_63
  have A := H.2.2.2.2.2.2.1
  have A1 := A.1
  have A2 := A.2.1
  have A3 := A.2.2.1
  refine OpI_same (r := h 63 9) (by omega) H (fun Q => ?_) (fun Q => ?_)
  · rw [C_74]
    simp (disch := omega) only [X_74_0, X_74_1, X_74_4, A1]
  · rw [C_204]
    simp (disch := omega) only [X_204_0, X_204_1, X_204_4]
theorem Op_findings {f : Int} (h_f : -2147483648 ≤ f ∧ f < 2147483648) : OpI 75 205 [.inl f] := by
  intro n h H hn
  have g0 := g1_0
  have g18 := g1_18
  have g71 := g1_71
  have g63 := g1_63
  by_cases h1 : 1 ≤ f ∧ f ≤ 5
  · obtain ⟨f, rfl⟩ := nat_of (x := f) (by omega)
    have A := H.2.2.2.2.2.2.1.2.2.2 f (by omega)
    have A1 := A.1
    refine OpI_same (r := h 71 f) (by omega) H (fun Q => ?_) (fun Q => ?_)
    · rw [C_75]
      simp (disch := omega) only [X_75_0, X_75_1, X_75_2_t, X_75_2_f, X_75_2, X_75_5, X_75_6, X_75_7_t, X_75_7_f, X_75_7, X_75_10, X_75_11, X_75_14, X_75_15, X_75_18, X_75_19, X_75_20, r1_0_5, Int.toNat_natCast, A1]
    · rw [C_205]
      simp (disch := omega) only [X_205_0, X_205_1, X_205_2, X_205_3, X_205_6, X_205_9_t, X_205_9_f, X_205_9, X_205_12, X_205_13, X_205_16, X_205_17, X_205_18, X_205_21, X_205_22, r1_63_8, Int.toNat_natCast, S3_in_t, pushR_some]
  · refine OpI_same (r := -1) (by omega) H (fun Q => ?_) (fun Q => ?_)
    · rw [C_75]
      by_cases z : f < 1
      · simp (disch := omega) only [X_75_0, X_75_1, X_75_2_t, X_75_2_f, X_75_2, X_75_5, X_75_6, X_75_7_t, X_75_7_f, X_75_7, X_75_10, X_75_11, X_75_14, X_75_15, X_75_18, X_75_19, X_75_20]
      · simp (disch := omega) only [X_75_0, X_75_1, X_75_2_t, X_75_2_f, X_75_2, X_75_5, X_75_6, X_75_7_t, X_75_7_f, X_75_7, X_75_10, X_75_11, X_75_14, X_75_15, X_75_18, X_75_19, X_75_20]
    · rw [C_205]
      simp (disch := omega) only [X_205_0, X_205_1, X_205_2, X_205_3, X_205_6, X_205_9_t, X_205_9_f, X_205_9, X_205_12, X_205_13, X_205_16, X_205_17, X_205_18, X_205_21, X_205_22, S3_in_f, pushR_some]
