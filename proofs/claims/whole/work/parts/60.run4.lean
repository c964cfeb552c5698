/-! 60: run on both sides -/
theorem mvOk_iff {h : AH} {r L : Nat} (hL : h 68 r = (L : Int)) (hm : mvOk h r = true) : ∀ k, k < L → 0 ≤ h 67 (40 * r + k) ∧ h 67 (40 * r + k) < 4 := by
  unfold mvOk at hm
  rw [allF_iff, hL, Int.toNat_natCast] at hm
  intro k hk
  have q := hm k (by omega) (by omega)
  simp only [decide_eq_true_eq] at q
  omega
theorem rnK_le {g : TF} : ∀ {m i : Nat} {f : TF}, rnK g m i f ≤ i + m
  | 0, i, _ => Nat.le_refl _
  | m + 1, i, f => by
    unfold rnK
    split
    · omega
    · have := rnK_le (g := g) (m := m) (i := i + 1) (f := mvF f (g i))
      omega
theorem rnT_ty {g : TF} : ∀ {m i : Nat} {f : TF} {N : Int}, (∀ k, i ≤ k → k < i + m → 0 ≤ g k ∧ g k < 4) → tyOk f N → tyOk (rnT g m i f) (N + (m : Int))
  | 0, _, f, N, _, hf => by simpa [rnT] using hf
  | m + 1, i, f, N, hg, hf => by
    unfold rnT
    split
    · obtain ⟨a1, a2, a3, a4, a5, a6, a7⟩ := hf
      exact ⟨a1, a2, a3, a4, a5, a6, by omega⟩
    · have q := rnT_ty (g := g) (m := m) (i := i + 1) (N := N + 1) (fun k k1 k2 => hg k (by omega) (by omega)) (mvF_ty (hg i (by omega) (by omega)) hf)
      rw [show N + ((m + 1 : Nat) : Int) = N + 1 + (m : Int) by omega]
      exact q
theorem rnT_hi {g : TF} {s : Nat} (hs : 98 ≤ s) : ∀ {m i : Nat} {f : TF}, (∀ k, i ≤ k → k < i + m → 0 ≤ g k ∧ g k < 4) → lieOk f → rnT g m i f s = f s
  | 0, _, _, _, _ => rfl
  | m + 1, i, f, hg, hf => by
    unfold rnT
    split
    · rfl
    · rw [rnT_hi hs (m := m) (fun k k1 k2 => hg k (by omega) (by omega)) (mvF_ok (hg i (by omega) (by omega)) hf), mvF_hi (hg i (by omega) (by omega)) hs hf]
theorem Op_run {x z : Int} (h_x : -2147483648 ≤ x ∧ x < 2147483648) (h_z : -2147483648 ≤ z ∧ z < 2147483648) : OpI 58 167 [.inl x, .inl z] := by
  intro n h H hn
  have g0 := g1_0
  have g1 := g1_1
  have g3 := g1_3
  have g63 := g1_63
  have t3 : isToy 3 := Or.inl rfl
  have t10 : isToy 10 := Or.inr (Or.inl rfl)
  have s10 := toy_s t10
  rcases LIV_c H with L | L
  · refine OpI_same (r := -4) (by omega) H (fun Q => ?_) (fun Q => ?_)
    · rw [C_58]
      simp (disch := omega) only [X_58_0, X_58_1, X_58_4, X_58_7_t, X_58_7_f, X_58_7, X_58_10, X_58_12, X_58_13, X_58_14, X_58_17_t, X_58_17_f, X_58_17, X_58_20, X_58_21, X_58_24_t, X_58_24_f, X_58_24, X_58_27, X_58_28, X_58_29, X_58_30, X_58_31, X_58_34, X_58_35, X_58_36, X_58_37, X_58_39, X_58_42, X_58_43, X_58_44_t, X_58_44_f, X_58_44, X_58_47, X_58_48, X_58_49, X_58_50, X_58_53, X_58_54, X_58_57, X_58_60, X_58_61, X_58_62, X_58_65, X_58_66, X_58_67, X_58_70, X_58_72, X_58_73, X_58_76, X_58_77, X_58_78, X_58_80, X_58_83, X_58_84, X_58_88, X_58_90_t, X_58_90_f, X_58_90, X_58_93, X_58_94, X_58_97, X_58_98, X_58_99, X_58_101, X_58_102, X_58_105, X_58_107, X_58_110, X_58_113, X_58_116, X_58_119, X_58_121, r1_0_2]
    · rw [C_167]
      simp (disch := omega) only [X_167_0, X_167_1, X_167_4_t, X_167_4_f, X_167_4, X_167_7, X_167_9, X_167_10, X_167_11, X_167_14_t, X_167_14_f, X_167_14, X_167_17, X_167_18, X_167_21_t, X_167_21_f, X_167_21, X_167_24, X_167_25, X_167_26, X_167_27, X_167_28, X_167_29, X_167_31, X_167_34, X_167_35, X_167_36, X_167_37_t, X_167_37_f, X_167_37, X_167_40, X_167_41, X_167_42, X_167_43, X_167_45, X_167_46, X_167_51, X_167_52, X_167_55, X_167_56, X_167_57_t, X_167_57_f, X_167_57, X_167_60, X_167_61, X_167_64, X_167_65, X_167_68, X_167_70, X_167_71, X_167_72, X_167_74, X_167_75, X_167_76, X_167_79_t, X_167_79_f, X_167_79, X_167_82, X_167_83, X_167_86, X_167_87, X_167_90, X_167_92, X_167_93, X_167_94, X_167_96, X_167_97, X_167_98, X_167_101, X_167_104, X_167_107, X_167_108, X_167_111, X_167_112, X_167_114, X_167_115, X_167_116, X_167_120, X_167_122_t, X_167_122_f, X_167_122, X_167_125, X_167_126, X_167_129, X_167_131, X_167_132, X_167_133, X_167_135, X_167_136, X_167_137, X_167_140, X_167_142, X_167_145, X_167_146, X_167_149, X_167_152, X_167_154]
  obtain ⟨L1, L2, L3⟩ := L
  by_cases h1 : 0 ≤ x ∧ x < 6
  case neg =>
    refine OpI_same (r := -1) (by omega) H (fun Q => ?_) (fun Q => ?_)
    · rw [C_58]
      simp (disch := omega) only [X_58_0, X_58_1, X_58_4, X_58_7_t, X_58_7_f, X_58_7, X_58_10, X_58_12, X_58_13, X_58_14, X_58_17_t, X_58_17_f, X_58_17, X_58_20, X_58_21, X_58_24_t, X_58_24_f, X_58_24, X_58_27, X_58_28, X_58_29, X_58_30, X_58_31, X_58_34, X_58_35, X_58_36, X_58_37, X_58_39, X_58_42, X_58_43, X_58_44_t, X_58_44_f, X_58_44, X_58_47, X_58_48, X_58_49, X_58_50, X_58_53, X_58_54, X_58_57, X_58_60, X_58_61, X_58_62, X_58_65, X_58_66, X_58_67, X_58_70, X_58_72, X_58_73, X_58_76, X_58_77, X_58_78, X_58_80, X_58_83, X_58_84, X_58_88, X_58_90_t, X_58_90_f, X_58_90, X_58_93, X_58_94, X_58_97, X_58_98, X_58_99, X_58_101, X_58_102, X_58_105, X_58_107, X_58_110, X_58_113, X_58_116, X_58_119, X_58_121, r1_0_2, S_isRow_f, pushR_some]
    · rw [C_167]
      simp (disch := omega) only [X_167_0, X_167_1, X_167_4_t, X_167_4_f, X_167_4, X_167_7, X_167_9, X_167_10, X_167_11, X_167_14_t, X_167_14_f, X_167_14, X_167_17, X_167_18, X_167_21_t, X_167_21_f, X_167_21, X_167_24, X_167_25, X_167_26, X_167_27, X_167_28, X_167_29, X_167_31, X_167_34, X_167_35, X_167_36, X_167_37_t, X_167_37_f, X_167_37, X_167_40, X_167_41, X_167_42, X_167_43, X_167_45, X_167_46, X_167_51, X_167_52, X_167_55, X_167_56, X_167_57_t, X_167_57_f, X_167_57, X_167_60, X_167_61, X_167_64, X_167_65, X_167_68, X_167_70, X_167_71, X_167_72, X_167_74, X_167_75, X_167_76, X_167_79_t, X_167_79_f, X_167_79, X_167_82, X_167_83, X_167_86, X_167_87, X_167_90, X_167_92, X_167_93, X_167_94, X_167_96, X_167_97, X_167_98, X_167_101, X_167_104, X_167_107, X_167_108, X_167_111, X_167_112, X_167_114, X_167_115, X_167_116, X_167_120, X_167_122_t, X_167_122_f, X_167_122, X_167_125, X_167_126, X_167_129, X_167_131, X_167_132, X_167_133, X_167_135, X_167_136, X_167_137, X_167_140, X_167_142, X_167_145, X_167_146, X_167_149, X_167_152, X_167_154, S3_isRow_f, pushR_some]
  by_cases h1t : 0 ≤ z ∧ z < 6
  case neg =>
    refine OpI_same (r := -1) (by omega) H (fun Q => ?_) (fun Q => ?_)
    · rw [C_58]
      simp (disch := omega) only [X_58_0, X_58_1, X_58_4, X_58_7_t, X_58_7_f, X_58_7, X_58_10, X_58_12, X_58_13, X_58_14, X_58_17_t, X_58_17_f, X_58_17, X_58_20, X_58_21, X_58_24_t, X_58_24_f, X_58_24, X_58_27, X_58_28, X_58_29, X_58_30, X_58_31, X_58_34, X_58_35, X_58_36, X_58_37, X_58_39, X_58_42, X_58_43, X_58_44_t, X_58_44_f, X_58_44, X_58_47, X_58_48, X_58_49, X_58_50, X_58_53, X_58_54, X_58_57, X_58_60, X_58_61, X_58_62, X_58_65, X_58_66, X_58_67, X_58_70, X_58_72, X_58_73, X_58_76, X_58_77, X_58_78, X_58_80, X_58_83, X_58_84, X_58_88, X_58_90_t, X_58_90_f, X_58_90, X_58_93, X_58_94, X_58_97, X_58_98, X_58_99, X_58_101, X_58_102, X_58_105, X_58_107, X_58_110, X_58_113, X_58_116, X_58_119, X_58_121, r1_0_2, S_isRow_t, S_isRow_f, pushR_some]
    · rw [C_167]
      simp (disch := omega) only [X_167_0, X_167_1, X_167_4_t, X_167_4_f, X_167_4, X_167_7, X_167_9, X_167_10, X_167_11, X_167_14_t, X_167_14_f, X_167_14, X_167_17, X_167_18, X_167_21_t, X_167_21_f, X_167_21, X_167_24, X_167_25, X_167_26, X_167_27, X_167_28, X_167_29, X_167_31, X_167_34, X_167_35, X_167_36, X_167_37_t, X_167_37_f, X_167_37, X_167_40, X_167_41, X_167_42, X_167_43, X_167_45, X_167_46, X_167_51, X_167_52, X_167_55, X_167_56, X_167_57_t, X_167_57_f, X_167_57, X_167_60, X_167_61, X_167_64, X_167_65, X_167_68, X_167_70, X_167_71, X_167_72, X_167_74, X_167_75, X_167_76, X_167_79_t, X_167_79_f, X_167_79, X_167_82, X_167_83, X_167_86, X_167_87, X_167_90, X_167_92, X_167_93, X_167_94, X_167_96, X_167_97, X_167_98, X_167_101, X_167_104, X_167_107, X_167_108, X_167_111, X_167_112, X_167_114, X_167_115, X_167_116, X_167_120, X_167_122_t, X_167_122_f, X_167_122, X_167_125, X_167_126, X_167_129, X_167_131, X_167_132, X_167_133, X_167_135, X_167_136, X_167_137, X_167_140, X_167_142, X_167_145, X_167_146, X_167_149, X_167_152, X_167_154, S3_isRow_t, S3_isRow_f, pushR_some]
  obtain ⟨r, rfl⟩ := nat_of h1.1
  obtain ⟨t, rfl⟩ := nat_of h1t.1
  have hr : r < 6 := by omega
  have ht : t < 6 := by omega
  have hR := rows_r hr
  have hT := rows_r ht
  have sR := rw_s hR.2
  have sT := rw_s hT.2
  have hLt := rwL_r ht
  have wT := hT.2
  have R := H.2.2.1 r hr
  have R' := R
  obtain ⟨R1, R2, R3, R4, R5⟩ := R'
  by_cases h2 : h 68 r < 0
  case pos =>
    have cF : ∀ Q, call 29 90 [.inr (.inr (some 0)), .inr (.inr (some (22 + 2 * r))), .inl 0, .inl 20] G1 h Q = Q (some (.inl (-3))) G1 (fnd h 1) := fun Q => S_mr_m (by omega) hr R h2
    have w68 : fnd h 1 68 r = h 68 r := by rw [fnd_o (by omega) (by omega)]
    have w63 : fnd h 1 63 1 = 1 := by rw [fnd_o (by omega) (by omega)]; exact L1
    refine OpI_find (w := 1) (by omega) H (fun Q => ?_) (fun Q => ?_)
    · rw [C_58]
      simp (disch := omega) only [X_58_0, X_58_1, X_58_4, X_58_7_t, X_58_7_f, X_58_7, X_58_10, X_58_12, X_58_13, X_58_14, X_58_17_t, X_58_17_f, X_58_17, X_58_20, X_58_21, X_58_24_t, X_58_24_f, X_58_24, X_58_27, X_58_28, X_58_29, X_58_30, X_58_31, X_58_34, X_58_35, X_58_36, X_58_37, X_58_39, X_58_42, X_58_43, X_58_44_t, X_58_44_f, X_58_44, X_58_47, X_58_48, X_58_49, X_58_50, X_58_53, X_58_54, X_58_57, X_58_60, X_58_61, X_58_62, X_58_65, X_58_66, X_58_67, X_58_70, X_58_72, X_58_73, X_58_76, X_58_77, X_58_78, X_58_80, X_58_83, X_58_84, X_58_88, X_58_90_t, X_58_90_f, X_58_90, X_58_93, X_58_94, X_58_97, X_58_98, X_58_99, X_58_101, X_58_102, X_58_105, X_58_107, X_58_110, X_58_113, X_58_116, X_58_119, X_58_121, r1_0_2, r1_0_0, S_isRow_t, Int.toNat_natCast, hR.1, cF, pushR_some, fixp_i]
    · rw [C_167]
      simp (disch := omega) only [X_167_0, X_167_1, X_167_4_t, X_167_4_f, X_167_4, X_167_7, X_167_9, X_167_10, X_167_11, X_167_14_t, X_167_14_f, X_167_14, X_167_17, X_167_18, X_167_21_t, X_167_21_f, X_167_21, X_167_24, X_167_25, X_167_26, X_167_27, X_167_28, X_167_29, X_167_31, X_167_34, X_167_35, X_167_36, X_167_37_t, X_167_37_f, X_167_37, X_167_40, X_167_41, X_167_42, X_167_43, X_167_45, X_167_46, X_167_51, X_167_52, X_167_55, X_167_56, X_167_57_t, X_167_57_f, X_167_57, X_167_60, X_167_61, X_167_64, X_167_65, X_167_68, X_167_70, X_167_71, X_167_72, X_167_74, X_167_75, X_167_76, X_167_79_t, X_167_79_f, X_167_79, X_167_82, X_167_83, X_167_86, X_167_87, X_167_90, X_167_92, X_167_93, X_167_94, X_167_96, X_167_97, X_167_98, X_167_101, X_167_104, X_167_107, X_167_108, X_167_111, X_167_112, X_167_114, X_167_115, X_167_116, X_167_120, X_167_122_t, X_167_122_f, X_167_122, X_167_125, X_167_126, X_167_129, X_167_131, X_167_132, X_167_133, X_167_135, X_167_136, X_167_137, X_167_140, X_167_142, X_167_145, X_167_146, X_167_149, X_167_152, X_167_154, S3_isRow_t, S3_la_m, pushR_some, fixp_i]
  by_cases h3 : h 68 r ≤ 20
  case neg =>
    have cF : ∀ Q, call 29 90 [.inr (.inr (some 0)), .inr (.inr (some (22 + 2 * r))), .inl 0, .inl 20] G1 h Q = Q (some (.inl (-3))) G1 (fnd h 5) := fun Q => S_mr_s (by omega) hr R (by omega) (by omega) (by omega)
    have w68 : fnd h 5 68 r = h 68 r := by rw [fnd_o (by omega) (by omega)]
    have w63 : fnd h 5 63 1 = 1 := by rw [fnd_o (by omega) (by omega)]; exact L1
    refine OpI_find (w := 5) (by omega) H (fun Q => ?_) (fun Q => ?_)
    · rw [C_58]
      simp (disch := omega) only [X_58_0, X_58_1, X_58_4, X_58_7_t, X_58_7_f, X_58_7, X_58_10, X_58_12, X_58_13, X_58_14, X_58_17_t, X_58_17_f, X_58_17, X_58_20, X_58_21, X_58_24_t, X_58_24_f, X_58_24, X_58_27, X_58_28, X_58_29, X_58_30, X_58_31, X_58_34, X_58_35, X_58_36, X_58_37, X_58_39, X_58_42, X_58_43, X_58_44_t, X_58_44_f, X_58_44, X_58_47, X_58_48, X_58_49, X_58_50, X_58_53, X_58_54, X_58_57, X_58_60, X_58_61, X_58_62, X_58_65, X_58_66, X_58_67, X_58_70, X_58_72, X_58_73, X_58_76, X_58_77, X_58_78, X_58_80, X_58_83, X_58_84, X_58_88, X_58_90_t, X_58_90_f, X_58_90, X_58_93, X_58_94, X_58_97, X_58_98, X_58_99, X_58_101, X_58_102, X_58_105, X_58_107, X_58_110, X_58_113, X_58_116, X_58_119, X_58_121, r1_0_2, r1_0_0, S_isRow_t, Int.toNat_natCast, hR.1, cF, pushR_some, fixp_i]
    · rw [C_167]
      simp (disch := omega) only [X_167_0, X_167_1, X_167_4_t, X_167_4_f, X_167_4, X_167_7, X_167_9, X_167_10, X_167_11, X_167_14_t, X_167_14_f, X_167_14, X_167_17, X_167_18, X_167_21_t, X_167_21_f, X_167_21, X_167_24, X_167_25, X_167_26, X_167_27, X_167_28, X_167_29, X_167_31, X_167_34, X_167_35, X_167_36, X_167_37_t, X_167_37_f, X_167_37, X_167_40, X_167_41, X_167_42, X_167_43, X_167_45, X_167_46, X_167_51, X_167_52, X_167_55, X_167_56, X_167_57_t, X_167_57_f, X_167_57, X_167_60, X_167_61, X_167_64, X_167_65, X_167_68, X_167_70, X_167_71, X_167_72, X_167_74, X_167_75, X_167_76, X_167_79_t, X_167_79_f, X_167_79, X_167_82, X_167_83, X_167_86, X_167_87, X_167_90, X_167_92, X_167_93, X_167_94, X_167_96, X_167_97, X_167_98, X_167_101, X_167_104, X_167_107, X_167_108, X_167_111, X_167_112, X_167_114, X_167_115, X_167_116, X_167_120, X_167_122_t, X_167_122_f, X_167_122, X_167_125, X_167_126, X_167_129, X_167_131, X_167_132, X_167_133, X_167_135, X_167_136, X_167_137, X_167_140, X_167_142, X_167_145, X_167_146, X_167_149, X_167_152, X_167_154, S3_isRow_t, S3_la_s, pushR_some, fixp_i]
  have cF : ∀ Q, call 29 90 [.inr (.inr (some 0)), .inr (.inr (some (22 + 2 * r))), .inl 0, .inl 20] G1 h Q = _ := fun Q => S_mr_a (by omega) hr R (by omega) (by omega) (by omega)
  have cL : ∀ (h' : AH) Q, h' 67 = h 67 → h' 68 = h 68 → call 29 166 [.inr (.inr (some 63)), .inl (r : Int), .inl 0, .inl 20] G1 h' Q = if mvOk h r = true then Q (some (.inl 1)) G1 h' else Q (some (.inl (-3))) G1 (fn3 h' 3) := fun h' Q e1 e2 => by
    have e3 : mvOk h' r = mvOk h r := by unfold mvOk; rw [e1, e2]
    rw [S3_la_a (by omega) hr (by rw [e2]; omega) (by rw [e2]; omega) (by omega) (by rw [e2]; omega) (fun k hk => by rw [e1]; rw [e2] at hk; exact (R5 k hk).2), e3]
  by_cases hm : mvOk h r = true
  case neg =>
    have cL2 := fun Q => cL (fnd h 3) Q (fnd_o (by omega) (by omega)) (fnd_o (by omega) (by omega))
    have w63 : fnd h 3 63 1 = 1 := by rw [fnd_o (by omega) (by omega)]; exact L1
    refine OpI_find (w := 3) (by omega) H (fun Q => ?_) (fun Q => ?_)
    · rw [C_58]
      simp (disch := omega) only [X_58_0, X_58_1, X_58_4, X_58_7_t, X_58_7_f, X_58_7, X_58_10, X_58_12, X_58_13, X_58_14, X_58_17_t, X_58_17_f, X_58_17, X_58_20, X_58_21, X_58_24_t, X_58_24_f, X_58_24, X_58_27, X_58_28, X_58_29, X_58_30, X_58_31, X_58_34, X_58_35, X_58_36, X_58_37, X_58_39, X_58_42, X_58_43, X_58_44_t, X_58_44_f, X_58_44, X_58_47, X_58_48, X_58_49, X_58_50, X_58_53, X_58_54, X_58_57, X_58_60, X_58_61, X_58_62, X_58_65, X_58_66, X_58_67, X_58_70, X_58_72, X_58_73, X_58_76, X_58_77, X_58_78, X_58_80, X_58_83, X_58_84, X_58_88, X_58_90_t, X_58_90_f, X_58_90, X_58_93, X_58_94, X_58_97, X_58_98, X_58_99, X_58_101, X_58_102, X_58_105, X_58_107, X_58_110, X_58_113, X_58_116, X_58_119, X_58_121, r1_0_2, r1_0_0, S_isRow_t, Int.toNat_natCast, hR.1, cF, if_neg hm, pushR_some, fixp_i]
    · rw [C_167]
      simp (disch := omega) only [X_167_0, X_167_1, X_167_4_t, X_167_4_f, X_167_4, X_167_7, X_167_9, X_167_10, X_167_11, X_167_14_t, X_167_14_f, X_167_14, X_167_17, X_167_18, X_167_21_t, X_167_21_f, X_167_21, X_167_24, X_167_25, X_167_26, X_167_27, X_167_28, X_167_29, X_167_31, X_167_34, X_167_35, X_167_36, X_167_37_t, X_167_37_f, X_167_37, X_167_40, X_167_41, X_167_42, X_167_43, X_167_45, X_167_46, X_167_51, X_167_52, X_167_55, X_167_56, X_167_57_t, X_167_57_f, X_167_57, X_167_60, X_167_61, X_167_64, X_167_65, X_167_68, X_167_70, X_167_71, X_167_72, X_167_74, X_167_75, X_167_76, X_167_79_t, X_167_79_f, X_167_79, X_167_82, X_167_83, X_167_86, X_167_87, X_167_90, X_167_92, X_167_93, X_167_94, X_167_96, X_167_97, X_167_98, X_167_101, X_167_104, X_167_107, X_167_108, X_167_111, X_167_112, X_167_114, X_167_115, X_167_116, X_167_120, X_167_122_t, X_167_122_f, X_167_122, X_167_125, X_167_126, X_167_129, X_167_131, X_167_132, X_167_133, X_167_135, X_167_136, X_167_137, X_167_140, X_167_142, X_167_145, X_167_146, X_167_149, X_167_152, X_167_154, S3_isRow_t, cL2, if_neg hm, pushR_some, fixp_i]
  obtain ⟨LL, hLL⟩ := nat_of (x := h 68 r) (by omega)
  have mk := mvOk_iff hLL hm
  have hf := FUL_ty L3
  obtain ⟨ha, cA, TA, FA, A8, A9⟩ := S_takeBeads (d := 29) (t := 10) (u := 3) (h := h) (f := h 64) (by omega) t10 t3 (by omega) L3.1 (Or.inr L2) hf.1
  obtain ⟨hb, cM, TM, FM, FM2⟩ := L_mma (d := 28) (r := r) (L := LL) (g := fun k => h 67 (40 * r + k)) (by omega) hr (by omega) mk LL 0 (h 64) 40 ha (by omega) (by rw [FA _ (by omega)]; omega) (fun k hk => by rw [FA _ (by omega)]; exact (R5 k (by omega)).1) (by rw [FA _ (by omega)]; exact H.1) TA hf
  have cM2 : ∀ Q, call 29 106 [.inr (.inr (some 0)), .inr (.inr (some (22 + 2 * r)))] G1 ha Q = Q (some (.inl (rnK (fun k => h 67 (40 * r + k)) LL 0 (h 64) : Int))) G1 hb := fun Q => by
    rw [C_106]
    simp (disch := omega) only [X_106_0, X_106_1, X_106_3, X_106_4, X_106_7_t, X_106_7_f, X_106_7, X_106_10, X_106_11, X_106_14, X_106_15, X_106_16, X_106_19, X_106_22_t, X_106_22_f, X_106_22, X_106_25, X_106_26, X_106_27, X_106_28, X_106_31, X_106_32, X_106_33, X_106_36, X_106_39, X_106_42, X_106_45, X_106_46, X_106_49, fixp_r]
    exact cM Q
  have kle := rnK_le (g := fun k => h 67 (40 * r + k)) (m := LL) (i := 0) (f := h 64)
  have ty := rnT_ty (g := fun k => h 67 (40 * r + k)) (m := LL) (i := 0) (f := h 64) (N := 40) (fun k k1 k2 => mk k (by omega)) hf
  have hi := fun (s : Nat) (hs : 98 ≤ s) => rnT_hi hs (g := fun k => h 67 (40 * r + k)) (m := LL) (i := 0) (f := h 64) (fun k k1 k2 => mk k (by omega)) hf.1
  have fb : ∀ a, (a < 10 ∨ 17 ≤ a) → hb a = h a := fun a ha => by rw [FM a (by omega), FA a (by omega)]
  generalize eH : rbg hb (22 + 2 * t) 14 = hc
  have wc : ∀ a, ¬ a = 22 + 2 * t → ¬ a = 23 + 2 * t → hc a = hb a := fun a z1 z2 => by rw [← eH, rbg_o z1 (by omega)]
  have wc2 : hc (22 + 2 * t) 2 = 14 := by rw [← eH, rbg_2]
  have wc1 : hc (22 + 2 * t) 1 = 0 := by rw [← eH, rbg_k (by omega), fb _ (by omega)]; exact (H.2.2.1 t ht).2.1
  have TC : TR hc 10 (rnT (fun k => h 67 (40 * r + k)) LL 0 (h 64)) := TR_keep TM (wc _ (by omega) (by omega)) (wc _ (by omega) (by omega)) (wc _ (by omega) (by omega)) (wc _ (by omega) (by omega)) (wc _ (by omega) (by omega)) (by rw [wc _ (by omega) (by omega)])
  generalize eD : setR hc (23 + 2 * t) (mixR 14 (shF (rnT (fun k => h 67 (40 * r + k)) LL 0 (h 64))) (hc (23 + 2 * t))) = hd
  have fd : ∀ a, (a < 10 ∨ 17 ≤ a) → ¬ a = 22 + 2 * t → ¬ a = 23 + 2 * t → hd a = h a := fun a a1 z1 z2 => by rw [← eD, setR_n z2, wc a z1 z2, fb a a1]
  have d67 : hd 67 = h 67 := fd 67 (by omega) (by omega) (by omega)
  have d68 : hd 68 = h 68 := fd 68 (by omega) (by omega) (by omega)
  have d64 : hd 64 = h 64 := fd 64 (by omega) (by omega) (by omega)
  have d63 : hd 63 1 = 1 := by rw [fd 63 (by omega) (by omega) (by omega), L1]
  have d74 : ∀ s, 98 ≤ s → hd 74 s = 0 := fun s hs => by rw [fd 74 (by omega) (by omega) (by omega)]; exact H.2.1 s hs
  have hz := H.2.2.2.2.1.2.2.2
  have cL2 := fun Q => cL hd Q d67 d68
  have cH : ∀ Q, call 29 164 [.inr (.inr (some 63))] G1 hd Q = Q none G1 (setR hd 74 (h 64)) := fun Q => by rw [S3_layHand (by omega) (fun s hs => by rw [d74 s hs, d64, hz s hs]), d64]
  have q1 := M_run1 (d := 29) (r := r) (t := t) (L := LL) (s := 1) (h := hd) (by omega) hr ht (by omega) (by rw [d68]; exact hLL) (fun k hk => by rw [d67]; exact mk k hk) LL 0 (h 64) 40 none (by omega) hf
  rw [d67] at q1
  generalize rnT (fun k => h 67 (40 * r + k)) LL 0 (h 64) = F at *
  generalize rnK (fun k => h 67 (40 * r + k)) LL 0 (h 64) = K at *
  generalize eE : put (setR hd 74 F) 68 t 14 = he at q1
  have e74 : he 74 = F := by rw [← eE, put_row (by omega), setR_s]
  have e67 : he 67 = h 67 := by rw [← eE, put_row (by omega), setR_n (by omega), d67]
  have q2 := fun Q => M_run2 (d := 29) (t := t) (r := (r : Int)) (s := 1) (k := (K : Int)) (f := F) (h := he) (Q := Q) (by omega) ht e74 ty (by omega) 14 0 rfl
  rw [blk_0, setR_e] at q2
  refine ⟨(K : Int), hd, setR he 67 (blk (he 67) (40 * t) 14 (shF F)), by omega, fun Q => ?_, fun Q => ?_, INV_same (INV_row ht H (fun a a1 a2 a3 a4 a5 => ?_) (fun s hs => ?_) (fun s hs hz => ?_) (fun s hs => ?_) ?_)⟩
  · have q := C_run2 (d := 29) (t := t) (r := (r : Int)) (s := 0) (k := (K : Int)) (f := F) (h := hc) (Q := Q) (by omega) ht wc2 TC ty (by omega) 14 0 rfl
    rw [mix_0, setR_e, eD] at q
    rw [C_58]
    simp (disch := omega) only [X_58_0, X_58_1, X_58_4, X_58_7_t, X_58_7_f, X_58_7, X_58_10, X_58_12, X_58_13, X_58_14, X_58_17_t, X_58_17_f, X_58_17, X_58_20, X_58_21, X_58_24_t, X_58_24_f, X_58_24, X_58_27, X_58_28, X_58_29, X_58_30, X_58_31, X_58_34, X_58_35, X_58_36, X_58_37, X_58_39, X_58_42, X_58_43, X_58_44_t, X_58_44_f, X_58_44, X_58_47, X_58_48, X_58_49, X_58_50, X_58_53, X_58_54, X_58_57, X_58_60, X_58_61, X_58_62, X_58_65, X_58_66, X_58_67, X_58_70, X_58_72, X_58_73, X_58_76, X_58_77, X_58_78, X_58_80, X_58_83, X_58_84, X_58_88, X_58_90_t, X_58_90_f, X_58_90, X_58_93, X_58_94, X_58_97, X_58_98, X_58_99, X_58_101, X_58_102, X_58_105, X_58_107, X_58_110, X_58_113, X_58_116, X_58_119, X_58_121, r1_0_2, r1_0_0, r1_0_3, S_isRow_t, Int.toNat_natCast, hR.1, hT.1, cF, if_pos hm, cA, cM2, S_rbegin, eH, pushR_some, pushR_none, fixp_i]
    exact q
  · rw [C_167]
    simp (disch := omega) only [X_167_0, X_167_1, X_167_4_t, X_167_4_f, X_167_4, X_167_7, X_167_9, X_167_10, X_167_11, X_167_14_t, X_167_14_f, X_167_14, X_167_17, X_167_18, X_167_21_t, X_167_21_f, X_167_21, X_167_24, X_167_25, X_167_26, X_167_27, X_167_28, X_167_29, X_167_31, X_167_34, X_167_35, X_167_36, X_167_37_t, X_167_37_f, X_167_37, X_167_40, X_167_41, X_167_42, X_167_43, X_167_45, X_167_46, X_167_51, X_167_52, X_167_55, X_167_56, X_167_57_t, X_167_57_f, X_167_57, X_167_60, X_167_61, X_167_64, X_167_65, X_167_68, X_167_70, X_167_71, X_167_72, X_167_74, X_167_75, X_167_76, X_167_79_t, X_167_79_f, X_167_79, X_167_82, X_167_83, X_167_86, X_167_87, X_167_90, X_167_92, X_167_93, X_167_94, X_167_96, X_167_97, X_167_98, X_167_101, X_167_104, X_167_107, X_167_108, X_167_111, X_167_112, X_167_114, X_167_115, X_167_116, X_167_120, X_167_122_t, X_167_122_f, X_167_122, X_167_125, X_167_126, X_167_129, X_167_131, X_167_132, X_167_133, X_167_135, X_167_136, X_167_137, X_167_140, X_167_142, X_167_145, X_167_146, X_167_149, X_167_152, X_167_154, S3_isRow_t, cL2, if_pos hm, cH, pushR_some, pushR_none, fixp_i]
    exact (q1 Q).trans (q2 Q)
  · have n74 : ¬ a = 74 := fun z => a1 (by unfold scr; omega)
    have n10 : a < 10 ∨ 17 ≤ a := by have : ¬ (10 ≤ a ∧ a < 17) := fun z => a1 (Or.inl z); omega
    rw [setR_n a4, ← eE, put_row a5, setR_n n74, fd a n10 a2 a3]
  · rw [setR_n (by omega), e74, hi s hs]; exact hz s hs
  · rw [setR_n (by omega), ← eE, put_nk hz, setR_n (by omega), d68]
  · rw [setR_s, blk_out (by omega), e67]
  · have y68 : setR he 67 (blk (he 67) (40 * t) 14 (shF F)) 68 t = 14 := by rw [setR_n (by omega), ← eE, put_s]
    unfold RowR
    rw [y68]
    have yo : ∀ a, ¬ a = 67 → ¬ a = 68 → ¬ a = 74 → setR he 67 (blk (he 67) (40 * t) 14 (shF F)) a = hd a := fun a z1 z2 z3 => by rw [setR_n z1, ← eE, put_row z2, setR_n z3]
    refine ⟨?_, ?_, by omega, by omega, fun k hk => ?_⟩
    · rw [yo _ (by omega) (by omega) (by omega), ← eD, setR_n (by omega), wc2]
    · rw [yo _ (by omega) (by omega) (by omega), ← eD, setR_n (by omega), wc1]
    · have bs := shF_rng ty (by omega) (show k < 14 by omega)
      rw [yo _ (by omega) (by omega) (by omega), ← eD, setR_s, mix_lt (by omega), setR_s, blk_in (by omega)]
      omega
