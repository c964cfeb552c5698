/-! 48: keep, on -/
theorem tn98 {r k : Nat} : ((98 : Int) * (r : Int) + (k : Int)).toNat = 98 * r + k := by omega
/-- a toy with beads copied into another -/
theorem take2 {d t u : Nat} {h : AH} {f : TF} (hd : 1 ≤ d) (ht : isToy t) (hu : isToy u) (hne : t ≠ u) (hF : FUL h u f) (h8 : h u 8 = 1) : ∃ h1 h2, (∀ Q, call d 12 [.inr (.inr (some t)), .inr (.inr (some u))] G1 h Q = Q none G1 h1) ∧ (∀ Q, call d 13 [.inr (.inr (some t)), .inr (.inr (some u))] G1 h1 Q = Q none G1 h2) ∧ FUL h2 t f ∧ h2 t 8 = 1 ∧ h2 t 7 = f 28 ∧ (∀ a, (a < t ∨ t + 7 ≤ a) → h2 a = h a) ∧ (∀ a, (a < t ∨ t + 6 ≤ a) → h1 a = h a) := by
  obtain ⟨h1, c1, T1, F1, F2, F3⟩ := S_takeBeads (d := d) (t := t) (u := u) (h := h) (f := f) hd ht hu hne hF.1 (Or.inr h8) hF.2.1.1
  have hu2 : u < t ∨ t + 7 ≤ u := by unfold isToy at ht hu; omega
  have b := hF.2.2.1
  generalize e2 : put (cpy h1 (t + 6) (u + 6) 40) t 7 (h1 u 7) = h2
  have wo : ∀ a, ¬ a = t → ¬ a = t + 6 → h2 a = h1 a := fun a z1 z2 => by rw [← e2, put_row z1]; unfold cpy; rw [setR_n z2]
  have wt : ∀ k, ¬ k = 7 → h2 t k = h1 t k := fun k z => by rw [← e2, put_nk z]; unfold cpy; rw [setR_n (by omega)]
  have w7 : h2 t 7 = f 28 := by rw [← e2, put_s, F1 u (by unfold isToy at ht hu; omega), b.1]
  have w6 : ∀ k, k < 40 → h2 (t + 6) k = h (u + 6) k := fun k hk => by
    rw [← e2, put_row (by omega)]
    unfold cpy
    rw [setR_s, mix_lt hk, F1 (u + 6) (by unfold isToy at ht hu; omega)]
  refine ⟨h1, h2, c1, fun Q => by rw [S_takeDeeds hd ht hu hne, e2], ⟨TR_keep T1 (wo _ (by omega) (by omega)) (wo _ (by omega) (by omega)) (wo _ (by omega) (by omega)) (wo _ (by omega) (by omega)) (wo _ (by omega) (by omega)) (wt 6 (by omega)), hF.2.1, ⟨w7, b.2.1, b.2.2.1, fun k hk => ?_⟩, hF.2.2.2⟩, by rw [wt 8 (by omega), F2, h8], w7, fun a ha => by rw [wo a (by omega) (by omega), F1 a (by omega)], F1⟩
  have hk2 := b.2.2.1
  rw [w6 k (by omega)]
  exact b.2.2.2 k hk
theorem L3_keep {d k : Nat} {h : AH} {Q : Option AV → AG → AH → Prop} (hk : k < 3) : ∀ (n i : Nat), i + n = 98 → wp d 162 26 [some (.inr (.inr (some 63))), some (.inl (k : Int)), some (.inl (i : Int))] [] G1 (setR h 65 (blk (h 65) (98 * k) i (h 64))) Q = Q (some (.inl (h 64 28))) G1 (put (setR h 65 (blk (h 65) (98 * k) 98 (h 64))) 66 k 1) := by
  have g0 := g1_63
  have g64 := g1_64
  have g65 := g1_65
  have g66 := g1_66
  intro n
  induction n with
  | zero =>
    intro i hi
    obtain rfl : i = 98 := by omega
    simp (disch := omega) only [X_162_26, X_162_0, X_162_1, X_162_2, X_162_3, X_162_6, X_162_9_t, X_162_9_f, X_162_9, X_162_12, X_162_13, X_162_14, X_162_15, X_162_18_t, X_162_18_f, X_162_18, X_162_21, X_162_23, X_162_24, X_162_25, X_162_27, X_162_29_t, X_162_29_f, X_162_29, X_162_32, X_162_33, X_162_36, X_162_38, X_162_39, X_162_40, X_162_41, X_162_42, X_162_43, X_162_46, X_162_47, X_162_48, X_162_49, X_162_52, X_162_55, X_162_56, X_162_59, X_162_60, X_162_61, X_162_62, X_162_63, X_162_66, X_162_68, X_162_69, r1_63_0, r1_63_3, Int.toNat_natCast, Int.reduceToNat, put_row, setR_n]
  | succ n ih =>
    intro i hi
    rw [← ih (i + 1) (by omega), X_162_26]
    simp (disch := omega) only [X_162_0, X_162_1, X_162_2, X_162_3, X_162_6, X_162_9_t, X_162_9_f, X_162_9, X_162_12, X_162_13, X_162_14, X_162_15, X_162_18_t, X_162_18_f, X_162_18, X_162_21, X_162_23, X_162_24, X_162_25, X_162_27, X_162_29_t, X_162_29_f, X_162_29, X_162_32, X_162_33, X_162_36, X_162_38, X_162_39, X_162_40, X_162_41, X_162_42, X_162_43, X_162_46, X_162_47, X_162_48, X_162_49, X_162_52, X_162_55, X_162_56, X_162_59, X_162_60, X_162_61, X_162_62, X_162_63, X_162_66, X_162_68, X_162_69, r1_63_0, r1_63_2, tn98, Int.toNat_natCast, put_set, setR_s, setR_n, setR_2, fixp_i, natS]
    rw [← blk_put (f := h 64)]
theorem Op_keep {x : Int} (h_x : -2147483648 ≤ x ∧ x < 2147483648) : OpI 55 162 [.inl x] := by
  intro n h H hn
  have g0 := g1_0
  have g3 := g1_3
  have g17 := g1_17
  have g63 := g1_63
  have g64 := g1_64
  have t3 : isToy 3 := Or.inl rfl
  by_cases h1 : 0 ≤ x ∧ x < 3
  case neg =>
    refine OpI_same (r := -1) (by omega) H (fun Q => ?_) (fun Q => ?_)
    · rw [C_55]
      simp (disch := omega) only [X_55_0, X_55_1, X_55_4_t, X_55_4_f, X_55_4, X_55_7, X_55_8, X_55_9, X_55_10, X_55_13, X_55_16_t, X_55_16_f, X_55_16, X_55_19, X_55_21, X_55_22, X_55_23, X_55_26, X_55_27, X_55_28, X_55_29, X_55_32, X_55_35, X_55_36, X_55_39, X_55_40, X_55_41, X_55_42, X_55_45, X_55_48, X_55_49, X_55_52, X_55_55, S_isKeeping_f, pushR_some]
    · rw [C_162]
      simp (disch := omega) only [X_162_0, X_162_1, X_162_2, X_162_3, X_162_6, X_162_9_t, X_162_9_f, X_162_9, X_162_12, X_162_13, X_162_14, X_162_15, X_162_18_t, X_162_18_f, X_162_18, X_162_21, X_162_23, X_162_24, X_162_25, X_162_27, X_162_29_t, X_162_29_f, X_162_29, X_162_32, X_162_33, X_162_36, X_162_38, X_162_39, X_162_40, X_162_41, X_162_42, X_162_43, X_162_46, X_162_47, X_162_48, X_162_49, X_162_52, X_162_55, X_162_56, X_162_59, X_162_60, X_162_61, X_162_62, X_162_63, X_162_66, X_162_68, X_162_69, S3_in_f, pushR_some]
  rcases LIV_c H with L | L
  · refine OpI_same (r := -4) (by omega) H (fun Q => ?_) (fun Q => ?_)
    · rw [C_55]
      simp (disch := omega) only [X_55_0, X_55_1, X_55_4_t, X_55_4_f, X_55_4, X_55_7, X_55_8, X_55_9, X_55_10, X_55_13, X_55_16_t, X_55_16_f, X_55_16, X_55_19, X_55_21, X_55_22, X_55_23, X_55_26, X_55_27, X_55_28, X_55_29, X_55_32, X_55_35, X_55_36, X_55_39, X_55_40, X_55_41, X_55_42, X_55_45, X_55_48, X_55_49, X_55_52, X_55_55, S_isKeeping_t, r1_0_2, pushR_some]
    · rw [C_162]
      simp (disch := omega) only [X_162_0, X_162_1, X_162_2, X_162_3, X_162_6, X_162_9_t, X_162_9_f, X_162_9, X_162_12, X_162_13, X_162_14, X_162_15, X_162_18_t, X_162_18_f, X_162_18, X_162_21, X_162_23, X_162_24, X_162_25, X_162_27, X_162_29_t, X_162_29_f, X_162_29, X_162_32, X_162_33, X_162_36, X_162_38, X_162_39, X_162_40, X_162_41, X_162_42, X_162_43, X_162_46, X_162_47, X_162_48, X_162_49, X_162_52, X_162_55, X_162_56, X_162_59, X_162_60, X_162_61, X_162_62, X_162_63, X_162_66, X_162_68, X_162_69, S3_in_t, pushR_some]
  obtain ⟨L1, L2, L3⟩ := L
  obtain ⟨k, rfl⟩ := nat_of h1.1
  have hk : k < 3 := by omega
  have hK := kept_r hk
  have sK := toy_s hK.2
  obtain ⟨ha, hb, c1, c2, F2, e8, e7, fo, fo1⟩ := take2 (d := 29) (t := 42 + 7 * k) (u := 3) (h := h) (f := h 64) (by omega) hK.2 t3 (by omega) L3 L2
  have b := L3.2.2.1
  have b1 := b.1
  have b2 := b.2.1
  have b3 := b.2.2.1
  have w64 : hb 64 = h 64 := fo 64 (by omega)
  have w65 : hb 65 = h 65 := fo 65 (by omega)
  have w66 : hb 66 = h 66 := fo 66 (by omega)
  have w63 : hb 63 = h 63 := fo 63 (by omega)
  have w631 : hb 63 1 = 1 := by rw [w63, L1]
  have w3 : hb 3 = h 3 := fo 3 (by omega)
  have wb3 : hb 3 7 = h 64 28 := by rw [w3, b1]
  generalize e4 : put (setR hb 65 (blk (hb 65) (98 * k) 98 (hb 64))) 66 k 1 = h4
  have yo : ∀ a, ¬ a = 65 → ¬ a = 66 → h4 a = hb a := fun a z1 z2 => by rw [← e4, put_row z2, setR_n z1]
  have y65 : h4 65 = blk (h 65) (98 * k) 98 (h 64) := by rw [← e4, put_row (by omega), setR_s, w65, w64]
  have y66 : h4 66 = putR (h 66) k 1 := by rw [← e4, put_set, setR_s, setR_n (by omega), w66]
  have hz := H.2.2.2.2.1.2.2.2
  have ek : kpt h4 k = h 64 := by
    funext s
    unfold kpt
    by_cases z : s < 98
    · rw [if_pos z, y65, blk_in z]
    · rw [if_neg z, hz s (by omega)]
  refine ⟨h 64 28, hb, h4, by omega, fun Q => ?_, fun Q => ?_, INV_same (INV_toy H (fun a a1 a2 a3 => ?_) (fun s hs => ?_) (fun s hs => ?_) ?_ (fun j hj => ?_))⟩
  · rw [C_55]
    simp (disch := omega) only [X_55_0, X_55_1, X_55_4_t, X_55_4_f, X_55_4, X_55_7, X_55_8, X_55_9, X_55_10, X_55_13, X_55_16_t, X_55_16_f, X_55_16, X_55_19, X_55_21, X_55_22, X_55_23, X_55_26, X_55_27, X_55_28, X_55_29, X_55_32, X_55_35, X_55_36, X_55_39, X_55_40, X_55_41, X_55_42, X_55_45, X_55_48, X_55_49, X_55_52, X_55_55, S_isKeeping_t, r1_0_2, r1_0_4, Int.toNat_natCast, hK.1, c1, c2, wb3, pushR_some, pushR_none]
  · have q := L3_keep (d := 29) (k := k) (h := hb) (Q := Q) hk 98 0 rfl
    rw [blk_0, setR_e, e4, w64] at q
    rw [C_162]
    simp (disch := omega) only [X_162_0, X_162_1, X_162_2, X_162_3, X_162_6, X_162_9_t, X_162_9_f, X_162_9, X_162_12, X_162_13, X_162_14, X_162_15, X_162_18_t, X_162_18_f, X_162_18, X_162_21, X_162_23, X_162_24, X_162_25, X_162_27, X_162_29_t, X_162_29_f, X_162_29, X_162_32, X_162_33, X_162_36, X_162_38, X_162_39, X_162_40, X_162_41, X_162_42, X_162_43, X_162_46, X_162_47, X_162_48, X_162_49, X_162_52, X_162_55, X_162_56, X_162_59, X_162_60, X_162_61, X_162_62, X_162_63, X_162_66, X_162_68, X_162_69, S3_in_t, pushR_some, fixp_i]
    exact q
  · rw [yo a (by omega) (by omega), fo a (by omega)]
  · rw [yo 63 (by omega) (by omega), w63]
  · rw [yo 74 (by omega) (by omega), fo 74 (by omega)]
    exact H.2.1 s hs
  · exact LIV_k (fun a ha => by rw [yo a (by omega) (by omega), fo a (by omega)]) (by rw [yo 63 (by omega) (by omega), w63]) (by rw [yo 64 (by omega) (by omega), w64]) H.2.2.2.2.1
  · by_cases z : j = k
    · subst z
      refine ⟨by rw [yo _ (by omega) (by omega), e8, y66, putR_s], Or.inr ⟨by rw [y66, putR_s], by rw [yo 63 (by omega) (by omega), w631], ?_⟩⟩
      rw [ek]
      exact FUL_k (fun a ha => yo a (by omega) (by omega)) F2
    · have K := H.2.2.2.2.2.1 j hj
      have e1 : kpt h4 j = kpt h j := by
        funext s
        unfold kpt
        by_cases z2 : s < 98
        · rw [if_pos z2, if_pos z2, y65, blk_out (by omega)]
        · rw [if_neg z2, if_neg z2]
      have e2 : h4 66 j = h 66 j := by rw [y66, putR_n z]
      have e3 : ∀ a, 42 + 7 * j ≤ a ∧ a < 42 + 7 * j + 7 → h4 a = h a := fun a ha => by rw [yo a (by omega) (by omega), fo a (by omega)]
      unfold KPT
      rw [e1, e2, e3 _ (by omega), yo 63 (by omega) (by omega), w63]
      exact ⟨K.1, K.2.imp id (fun z => ⟨z.1, z.2.1, FUL_k e3 z.2.2⟩)⟩
theorem L3_on {d k : Nat} {h : AH} {Q : Option AV → AG → AH → Prop} (hk : k < 3) : ∀ (n i : Nat), i + n = 98 → wp d 163 31 [some (.inr (.inr (some 63))), some (.inl (k : Int)), some (.inl (i : Int))] [] G1 (setR h 64 (mixR i (fun s => h 65 (98 * k + s)) (h 64))) Q = Q (some (.inl (h 65 (98 * k + 28)))) G1 (setR h 64 (mixR 98 (fun s => h 65 (98 * k + s)) (h 64))) := by
  have g0 := g1_63
  have g64 := g1_64
  have g65 := g1_65
  intro n
  induction n with
  | zero =>
    intro i hi
    obtain rfl : i = 98 := by omega
    simp (disch := omega) only [X_163_31, X_163_0, X_163_1, X_163_2, X_163_3, X_163_6, X_163_9_t, X_163_9_f, X_163_9, X_163_12, X_163_13, X_163_14, X_163_15, X_163_18, X_163_19, X_163_20_t, X_163_20_f, X_163_20, X_163_23, X_163_24, X_163_25, X_163_28, X_163_29, X_163_30, X_163_32, X_163_34_t, X_163_34_f, X_163_34, X_163_37, X_163_38, X_163_41, X_163_42, X_163_43, X_163_46, X_163_48, X_163_49, X_163_50, X_163_51, X_163_52, X_163_53, X_163_54, X_163_57, X_163_60, X_163_61, X_163_64, X_163_66, X_163_67, r1_63_0, Int.reduceToNat, setR_s, mix_lt]
  | succ n ih =>
    intro i hi
    rw [← ih (i + 1) (by omega), X_163_31]
    simp (disch := omega) only [X_163_0, X_163_1, X_163_2, X_163_3, X_163_6, X_163_9_t, X_163_9_f, X_163_9, X_163_12, X_163_13, X_163_14, X_163_15, X_163_18, X_163_19, X_163_20_t, X_163_20_f, X_163_20, X_163_23, X_163_24, X_163_25, X_163_28, X_163_29, X_163_30, X_163_32, X_163_34_t, X_163_34_f, X_163_34, X_163_37, X_163_38, X_163_41, X_163_42, X_163_43, X_163_46, X_163_48, X_163_49, X_163_50, X_163_51, X_163_52, X_163_53, X_163_54, X_163_57, X_163_60, X_163_61, X_163_64, X_163_66, X_163_67, r1_63_0, r1_63_2, tn98, Int.toNat_natCast, put_set, setR_s, setR_n, setR_2, fixp_i, natS]
    rw [← mix_put (f := fun s => h 65 (98 * k + s))]
theorem Op_on {x : Int} (h_x : -2147483648 ≤ x ∧ x < 2147483648) : OpI 56 163 [.inl x] := by
  intro n h H hn
  have g0 := g1_0
  have g3 := g1_3
  have g17 := g1_17
  have g63 := g1_63
  have g64 := g1_64
  have g66 := g1_66
  have t3 : isToy 3 := Or.inl rfl
  by_cases h1 : 0 ≤ x ∧ x < 3
  case neg =>
    refine OpI_same (r := -1) (by omega) H (fun Q => ?_) (fun Q => ?_)
    · rw [C_56]
      simp (disch := omega) only [X_56_0, X_56_1, X_56_4_t, X_56_4_f, X_56_4, X_56_7, X_56_8, X_56_9, X_56_10, X_56_13, X_56_14, X_56_15, X_56_18_t, X_56_18_f, X_56_18, X_56_21, X_56_22, X_56_23, X_56_26, X_56_27, X_56_28, X_56_31, X_56_32, X_56_35, X_56_36, X_56_37, X_56_40, X_56_41, X_56_44, X_56_45, X_56_48, X_56_49, X_56_50, X_56_53, X_56_54, X_56_57, X_56_60, S_isKeeping_f, pushR_some]
    · rw [C_163]
      simp (disch := omega) only [X_163_0, X_163_1, X_163_2, X_163_3, X_163_6, X_163_9_t, X_163_9_f, X_163_9, X_163_12, X_163_13, X_163_14, X_163_15, X_163_18, X_163_19, X_163_20_t, X_163_20_f, X_163_20, X_163_23, X_163_24, X_163_25, X_163_28, X_163_29, X_163_30, X_163_32, X_163_34_t, X_163_34_f, X_163_34, X_163_37, X_163_38, X_163_41, X_163_42, X_163_43, X_163_46, X_163_48, X_163_49, X_163_50, X_163_51, X_163_52, X_163_53, X_163_54, X_163_57, X_163_60, X_163_61, X_163_64, X_163_66, X_163_67, S3_in_f, pushR_some]
  obtain ⟨k, rfl⟩ := nat_of h1.1
  have hk : k < 3 := by omega
  have hK := kept_r hk
  have sK := toy_s hK.2
  obtain ⟨K1, K2⟩ := H.2.2.2.2.2.1 k hk
  rcases K2 with K2 | ⟨K2, K3, K4⟩
  · refine OpI_find (w := 1) (by omega) H (fun Q => ?_) (fun Q => ?_)
    · rw [C_56]
      simp (disch := omega) only [X_56_0, X_56_1, X_56_4_t, X_56_4_f, X_56_4, X_56_7, X_56_8, X_56_9, X_56_10, X_56_13, X_56_14, X_56_15, X_56_18_t, X_56_18_f, X_56_18, X_56_21, X_56_22, X_56_23, X_56_26, X_56_27, X_56_28, X_56_31, X_56_32, X_56_35, X_56_36, X_56_37, X_56_40, X_56_41, X_56_44, X_56_45, X_56_48, X_56_49, X_56_50, X_56_53, X_56_54, X_56_57, X_56_60, S_isKeeping_t, r1_0_4, Int.toNat_natCast, hK.1, S_found, pushR_some]
    · have w66 : fnd h 1 66 = h 66 := fnd_o (by omega) (by omega)
      generalize fnd h 1 = h1 at w66 ⊢
      rw [C_163]
      simp (disch := omega) only [X_163_0, X_163_1, X_163_2, X_163_3, X_163_6, X_163_9_t, X_163_9_f, X_163_9, X_163_12, X_163_13, X_163_14, X_163_15, X_163_18, X_163_19, X_163_20_t, X_163_20_f, X_163_20, X_163_23, X_163_24, X_163_25, X_163_28, X_163_29, X_163_30, X_163_32, X_163_34_t, X_163_34_f, X_163_34, X_163_37, X_163_38, X_163_41, X_163_42, X_163_43, X_163_46, X_163_48, X_163_49, X_163_50, X_163_51, X_163_52, X_163_53, X_163_54, X_163_57, X_163_60, X_163_61, X_163_64, X_163_66, X_163_67, S3_in_t, r1_63_3, Int.toNat_natCast, w66, S3_finds, pushR_some]
  obtain ⟨ha, hb, c1, c2, F2, e8, e7, fo, fo1⟩ := take2 (d := 29) (t := 3) (u := 42 + 7 * k) (h := h) (f := kpt h k) (by omega) t3 hK.2 (by omega) K4 (by omega)
  have b := K4.2.2.1
  have b2 := b.2.1
  have b3 := b.2.2.1
  have w64 : hb 64 = h 64 := fo 64 (by omega)
  have w65 : hb 65 = h 65 := fo 65 (by omega)
  have w66 : hb 66 = h 66 := fo 66 (by omega)
  have hz := H.2.2.2.2.1.2.2.2
  have ek : mixR 98 (fun s => hb 65 (98 * k + s)) (hb 64) = kpt h k := by
    funext s
    unfold kpt
    by_cases z : s < 98
    · rw [if_pos z, mix_lt z, w65]
    · rw [if_neg z, mix_ge (by omega), w64, hz s (by omega)]
  have e28 : hb 65 (98 * k + 28) = kpt h k 28 := by
    unfold kpt
    rw [if_pos (by omega), w65]
  refine ⟨kpt h k 28, hb, setR hb 64 (kpt h k), by omega, fun Q => ?_, fun Q => ?_, INV_same (INV_live H (fun a a1 a2 => by rw [setR_n a2, fo a (by omega)]) K3 (by rw [setR_n (by omega), e8]) (by rw [setR_s]; exact FUL_k (h := hb) (fun a ha => setR_n (by omega)) F2) (fun s hs => by rw [setR_s]; unfold kpt; rw [if_neg (by omega)]))⟩
  · rw [C_56]
    simp (disch := omega) only [X_56_0, X_56_1, X_56_4_t, X_56_4_f, X_56_4, X_56_7, X_56_8, X_56_9, X_56_10, X_56_13, X_56_14, X_56_15, X_56_18_t, X_56_18_f, X_56_18, X_56_21, X_56_22, X_56_23, X_56_26, X_56_27, X_56_28, X_56_31, X_56_32, X_56_35, X_56_36, X_56_37, X_56_40, X_56_41, X_56_44, X_56_45, X_56_48, X_56_49, X_56_50, X_56_53, X_56_54, X_56_57, X_56_60, S_isKeeping_t, r1_0_2, r1_0_4, Int.toNat_natCast, hK.1, c1, c2, e7, pushR_some, pushR_none]
  · have q := L3_on (d := 29) (k := k) (h := hb) (Q := Q) hk 98 0 rfl
    rw [mix_0, setR_e, ek, e28] at q
    rw [C_163]
    simp (disch := omega) only [X_163_0, X_163_1, X_163_2, X_163_3, X_163_6, X_163_9_t, X_163_9_f, X_163_9, X_163_12, X_163_13, X_163_14, X_163_15, X_163_18, X_163_19, X_163_20_t, X_163_20_f, X_163_20, X_163_23, X_163_24, X_163_25, X_163_28, X_163_29, X_163_30, X_163_32, X_163_34_t, X_163_34_f, X_163_34, X_163_37, X_163_38, X_163_41, X_163_42, X_163_43, X_163_46, X_163_48, X_163_49, X_163_50, X_163_51, X_163_52, X_163_53, X_163_54, X_163_57, X_163_60, X_163_61, X_163_64, X_163_66, X_163_67, S3_in_t, r1_63_3, Int.toNat_natCast, w66, pushR_some, fixp_i]
    exact q
