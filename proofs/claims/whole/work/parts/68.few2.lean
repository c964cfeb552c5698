/-! 68: the fewest moves on both sides -/

theorem M_fewest1 {d t n : Nat} {c : Nat} {col : Int} {N : Int} {h : AH} (hd : 4 ≤ d) (ht : t < 6) (hn : n < 6) (hf : tyOk (h 64) N) (hN : N + 6 ≤ 900000) (hc : c < 14) (hcol : 0 ≤ col ∧ col ≤ 9) : ∀ (m j : Nat) (F : TF), j + m = 4 ^ n → (∀ s, 98 ≤ s → F s = h 64 s) → ∃ F' : TF, (∀ s, 98 ≤ s → F' s = h 64 s) ∧ ∀ Q, wp d 172 46 [some (.inr (.inr (some 63))), some (.inl (c : Int)), some (.inl col), some (.inl (t : Int)), some (.inl (n : Int)), some (.inl (j : Int))] [] G1 (setR h 74 F) Q = match sc (fun g => decide (shF g c = col)) n (h 64) m j with
    | some c => Q (some (.inl (n : Int))) G1 (lmv (setR h 74 F') t n c)
    | none => wp d 172 96 [some (.inr (.inr (some 63))), some (.inl (c : Int)), some (.inl col), some (.inl (t : Int)), some (.inl (n : Int)), some (.inl ((4 ^ n : Nat) : Int))] [] G1 (setR h 74 F') Q := by
  have g0 := g1_63
  have sh4 := shl_4 n hn
  have p4 := pow_4 n hn
  have gn : (n : Int) < 6 := by omega
  generalize 4 ^ n = p at *
  intro m
  induction m with
  | zero =>
    intro j F hj hF
    obtain rfl : j = p := by omega
    refine ⟨F, hF, fun Q => ?_⟩
    simp (disch := omega) only [X_172_46, X_172_0, X_172_1, X_172_4_t, X_172_4_f, X_172_4, X_172_7, X_172_9, X_172_10, X_172_11, X_172_14_t, X_172_14_f, X_172_14, X_172_17, X_172_18, X_172_21_t, X_172_21_f, X_172_21, X_172_24, X_172_25, X_172_28_t, X_172_28_f, X_172_28, X_172_31, X_172_32, X_172_33, X_172_34, X_172_38, X_172_40_t, X_172_40_f, X_172_40, X_172_43, X_172_44, X_172_48, X_172_49, X_172_50, X_172_52, X_172_53, X_172_54_t, X_172_54_f, X_172_54, X_172_57, X_172_58, X_172_60, X_172_62, X_172_65_t, X_172_65_f, X_172_65, X_172_68, X_172_69, X_172_72, X_172_73, X_172_76, X_172_77_t, X_172_77_f, X_172_77, X_172_80, X_172_81, X_172_82, X_172_84, X_172_86, X_172_89, X_172_90, X_172_93, X_172_96, X_172_99, X_172_102, X_172_104, sh4, sc, fixp_i]
  | succ m ih =>
    intro j F hj hF
    have cG := fun Q => S3_goesR (d := d) (n := n) (code := j) (h := h) (F := F) (N := N) (Q := Q) hd (by omega) (by omega) hF hf
    have ty := gt_ty (code := j) (k := n) hf
    have hi2 : ∀ s, 98 ≤ s → gt j n (h 64) s = h 64 s := fun s hs => gt_hi (code := j) hs (k := n) hf.1
    obtain ⟨F', F2, c2⟩ := ih (j + 1) (gt j n (h 64)) (by omega) hi2
    by_cases eg : gb j n (h 64) = true
    · have cP : ∀ Q, call d 143 [.inr (.inr (some 74)), .inl (c : Int)] G1 (setR h 74 (gt j n (h 64))) Q = Q (some (.inl (shF (gt j n (h 64)) c))) G1 (setR h 74 (gt j n (h 64))) := fun Q => by
        rw [S3_showsIn (N := N + (n : Int)) (by omega) (Or.inr rfl) hc (by rw [setR_s]; exact ty) (by omega), setR_s]
      have sr := shF_rng ty (by omega) hc
      by_cases hp : decide (shF (gt j n (h 64)) c = col) = true
      · have e : sc (fun g => decide (shF g c = col)) n (h 64) (m + 1) j = some j := by
          unfold sc
          rw [if_pos]
          unfold okc
          rw [eg]
          exact hp
        rw [e]
        refine ⟨gt j n (h 64), hi2, fun Q => ?_⟩
        have cL := fun Q => S3_layMoves (d := d) (t := t) (n := n) (c := j) (h := setR h 74 (gt j n (h 64))) (Q := Q) (by omega) ht (by omega) (by omega)
        conv => lhs; rw [X_172_46]
        try simp only [decide_eq_true_eq] at hp
        simp (disch := omega) only [X_172_0, X_172_1, X_172_4_t, X_172_4_f, X_172_4, X_172_7, X_172_9, X_172_10, X_172_11, X_172_14_t, X_172_14_f, X_172_14, X_172_17, X_172_18, X_172_21_t, X_172_21_f, X_172_21, X_172_24, X_172_25, X_172_28_t, X_172_28_f, X_172_28, X_172_31, X_172_32, X_172_33, X_172_34, X_172_38, X_172_40_t, X_172_40_f, X_172_40, X_172_43, X_172_44, X_172_48, X_172_49, X_172_50, X_172_52, X_172_53, X_172_54_t, X_172_54_f, X_172_54, X_172_57, X_172_58, X_172_60, X_172_62, X_172_65_t, X_172_65_f, X_172_65, X_172_68, X_172_69, X_172_72, X_172_73, X_172_76, X_172_77_t, X_172_77_f, X_172_77, X_172_80, X_172_81, X_172_82, X_172_84, X_172_86, X_172_89, X_172_90, X_172_93, X_172_96, X_172_99, X_172_102, X_172_104, sh4, r1_63_15, cG, if_pos eg, cP, hp, if_true, cL, pushR_some, fixp_i]
      · have e : sc (fun g => decide (shF g c = col)) n (h 64) (m + 1) j = sc (fun g => decide (shF g c = col)) n (h 64) m (j + 1) := by
          conv => lhs; unfold sc
          rw [if_neg]
          unfold okc
          rw [eg, Bool.true_and]
          exact hp
        rw [e]
        refine ⟨F', F2, fun Q => ?_⟩
        refine Eq.trans ?_ (c2 Q)
        conv => lhs; rw [X_172_46]
        try simp only [decide_eq_true_eq] at hp
        conv => lhs; simp (disch := omega) only [X_172_0, X_172_1, X_172_4_t, X_172_4_f, X_172_4, X_172_7, X_172_9, X_172_10, X_172_11, X_172_14_t, X_172_14_f, X_172_14, X_172_17, X_172_18, X_172_21_t, X_172_21_f, X_172_21, X_172_24, X_172_25, X_172_28_t, X_172_28_f, X_172_28, X_172_31, X_172_32, X_172_33, X_172_34, X_172_38, X_172_40_t, X_172_40_f, X_172_40, X_172_43, X_172_44, X_172_48, X_172_49, X_172_50, X_172_52, X_172_53, X_172_54_t, X_172_54_f, X_172_54, X_172_57, X_172_58, X_172_60, X_172_62, X_172_65_t, X_172_65_f, X_172_65, X_172_68, X_172_69, X_172_72, X_172_73, X_172_76, X_172_77_t, X_172_77_f, X_172_77, X_172_80, X_172_81, X_172_82, X_172_84, X_172_86, X_172_89, X_172_90, X_172_93, X_172_96, X_172_99, X_172_102, X_172_104, sh4, r1_63_15, cG, if_pos eg, cP, hp, if_false, Bool.false_eq_true, pushR_some, fixp_i, natS]
    · have e : sc (fun g => decide (shF g c = col)) n (h 64) (m + 1) j = sc (fun g => decide (shF g c = col)) n (h 64) m (j + 1) := by
        conv => lhs; unfold sc
        rw [if_neg]
        unfold okc
        rw [Bool.eq_false_iff.mpr eg, Bool.false_and]
        decide
      rw [e]
      refine ⟨F', F2, fun Q => ?_⟩
      refine Eq.trans ?_ (c2 Q)
      conv => lhs; rw [X_172_46]
      conv => lhs; simp (disch := omega) only [X_172_0, X_172_1, X_172_4_t, X_172_4_f, X_172_4, X_172_7, X_172_9, X_172_10, X_172_11, X_172_14_t, X_172_14_f, X_172_14, X_172_17, X_172_18, X_172_21_t, X_172_21_f, X_172_21, X_172_24, X_172_25, X_172_28_t, X_172_28_f, X_172_28, X_172_31, X_172_32, X_172_33, X_172_34, X_172_38, X_172_40_t, X_172_40_f, X_172_40, X_172_43, X_172_44, X_172_48, X_172_49, X_172_50, X_172_52, X_172_53, X_172_54_t, X_172_54_f, X_172_54, X_172_57, X_172_58, X_172_60, X_172_62, X_172_65_t, X_172_65_f, X_172_65, X_172_68, X_172_69, X_172_72, X_172_73, X_172_76, X_172_77_t, X_172_77_f, X_172_77, X_172_80, X_172_81, X_172_82, X_172_84, X_172_86, X_172_89, X_172_90, X_172_93, X_172_96, X_172_99, X_172_102, X_172_104, sh4, cG, if_neg eg, pushR_some, fixp_i, natS]
theorem M_fewest2 {d t : Nat} {c : Nat} {col : Int} {N : Int} {h : AH} (hd : 4 ≤ d) (ht : t < 6) (hf : tyOk (h 64) N) (hN : N + 6 ≤ 900000) (hc : c < 14) (hcol : 0 ≤ col ∧ col ≤ 9) : ∀ (m i : Nat) (F : TF) (l5 : Option AV), i + m = 6 → (∀ s, 98 ≤ s → F s = h 64 s) → ∃ F' : TF, (∀ s, 98 ≤ s → F' s = h 64 s) ∧ ∀ Q, wp d 172 36 [some (.inr (.inr (some 63))), some (.inl (c : Int)), some (.inl col), some (.inl (t : Int)), some (.inl (i : Int)), l5] [] G1 (setR h 74 F) Q = Q (some (.inl (fwV (fwF (fun g => decide (shF g c = col)) (h 64) m i)))) G1 (lmO (setR h 74 F') t (fwF (fun g => decide (shF g c = col)) (h 64) m i)) := by
  have g0 := g1_63
  intro m
  induction m with
  | zero =>
    intro i F l5 hi hF
    obtain rfl : i = 6 := by omega
    refine ⟨F, hF, fun Q => ?_⟩
    simp (disch := omega) only [X_172_36, X_172_0, X_172_1, X_172_4_t, X_172_4_f, X_172_4, X_172_7, X_172_9, X_172_10, X_172_11, X_172_14_t, X_172_14_f, X_172_14, X_172_17, X_172_18, X_172_21_t, X_172_21_f, X_172_21, X_172_24, X_172_25, X_172_28_t, X_172_28_f, X_172_28, X_172_31, X_172_32, X_172_33, X_172_34, X_172_38, X_172_40_t, X_172_40_f, X_172_40, X_172_43, X_172_44, X_172_48, X_172_49, X_172_50, X_172_52, X_172_53, X_172_54_t, X_172_54_f, X_172_54, X_172_57, X_172_58, X_172_60, X_172_62, X_172_65_t, X_172_65_f, X_172_65, X_172_68, X_172_69, X_172_72, X_172_73, X_172_76, X_172_77_t, X_172_77_f, X_172_77, X_172_80, X_172_81, X_172_82, X_172_84, X_172_86, X_172_89, X_172_90, X_172_93, X_172_96, X_172_99, X_172_102, X_172_104, fwF, fwV, lmO]
  | succ m ih =>
    intro i F l5 hi hF
    obtain ⟨F1, hF1, q1⟩ := M_fewest1 (d := d) (t := t) (n := i) (c := c) (col := col) (N := N) (h := h) hd ht (by omega) hf hN hc hcol (4 ^ i) 0 F (by omega) hF
    rw [sc_ds] at q1
    have q0 : ∀ Q, wp d 172 36 [some (.inr (.inr (some 63))), some (.inl (c : Int)), some (.inl col), some (.inl (t : Int)), some (.inl (i : Int)), l5] [] G1 (setR h 74 F) Q = wp d 172 46 [some (.inr (.inr (some 63))), some (.inl (c : Int)), some (.inl col), some (.inl (t : Int)), some (.inl (i : Int)), some (.inl ((0 : Nat) : Int))] [] G1 (setR h 74 F) Q := fun Q => by
      conv => lhs; rw [X_172_36]
      conv => lhs; simp (disch := omega) only [X_172_0, X_172_1, X_172_4_t, X_172_4_f, X_172_4, X_172_7, X_172_9, X_172_10, X_172_11, X_172_14_t, X_172_14_f, X_172_14, X_172_17, X_172_18, X_172_21_t, X_172_21_f, X_172_21, X_172_24, X_172_25, X_172_28_t, X_172_28_f, X_172_28, X_172_31, X_172_32, X_172_33, X_172_34, X_172_38, X_172_40_t, X_172_40_f, X_172_40, X_172_43, X_172_44, X_172_48, X_172_49, X_172_50, X_172_52, X_172_53, X_172_54_t, X_172_54_f, X_172_54, X_172_57, X_172_58, X_172_60, X_172_62, X_172_65_t, X_172_65_f, X_172_65, X_172_68, X_172_69, X_172_72, X_172_73, X_172_76, X_172_77_t, X_172_77_f, X_172_77, X_172_80, X_172_81, X_172_82, X_172_84, X_172_86, X_172_89, X_172_90, X_172_93, X_172_96, X_172_99, X_172_102, X_172_104, fixp_i]
      rfl
    cases hD : ds (fun g => decide (shF g c = col)) i (h 64) with
    | some cc =>
      have e : fwF (fun g => decide (shF g c = col)) (h 64) (m + 1) i = some (i, cc) := by unfold fwF; rw [hD]
      rw [hD] at q1
      rw [e]
      exact ⟨F1, hF1, fun Q => by rw [q0, q1]; rfl⟩
    | none =>
      have e : fwF (fun g => decide (shF g c = col)) (h 64) (m + 1) i = fwF (fun g => decide (shF g c = col)) (h 64) m (i + 1) := by conv => lhs; unfold fwF; rw [hD]
      rw [hD] at q1
      rw [e]
      obtain ⟨F2, hF2, q2⟩ := ih (i + 1) F1 (some (.inl ((4 ^ i : Nat) : Int))) (by omega) hF1
      refine ⟨F2, hF2, fun Q => ?_⟩
      rw [q0, q1]
      refine Eq.trans ?_ (q2 Q)
      dsimp only
      conv => lhs; simp (disch := omega) only [X_172_0, X_172_1, X_172_4_t, X_172_4_f, X_172_4, X_172_7, X_172_9, X_172_10, X_172_11, X_172_14_t, X_172_14_f, X_172_14, X_172_17, X_172_18, X_172_21_t, X_172_21_f, X_172_21, X_172_24, X_172_25, X_172_28_t, X_172_28_f, X_172_28, X_172_31, X_172_32, X_172_33, X_172_34, X_172_38, X_172_40_t, X_172_40_f, X_172_40, X_172_43, X_172_44, X_172_48, X_172_49, X_172_50, X_172_52, X_172_53, X_172_54_t, X_172_54_f, X_172_54, X_172_57, X_172_58, X_172_60, X_172_62, X_172_65_t, X_172_65_f, X_172_65, X_172_68, X_172_69, X_172_72, X_172_73, X_172_76, X_172_77_t, X_172_77_f, X_172_77, X_172_80, X_172_81, X_172_82, X_172_84, X_172_86, X_172_89, X_172_90, X_172_93, X_172_96, X_172_99, X_172_102, X_172_104, fixp_i, natS]


theorem M_picture1 {d t n : Nat} {r : Nat} {s : Int} {N : Int} {h : AH} (hd : 4 ≤ d) (ht : t < 6) (hn : n < 6) (hf : tyOk (h 64) N) (hN : N + 6 ≤ 900000) (hr : r < 6) (hw : ∀ c, c < 14 → -1 ≤ h 67 (40 * r + c) ∧ h 67 (40 * r + c) ≤ 9) : ∀ (m j : Nat) (F : TF), j + m = 4 ^ n → (∀ s, 98 ≤ s → F s = h 64 s) → ∃ F' : TF, (∀ s, 98 ≤ s → F' s = h 64 s) ∧ ∀ Q, wp d 175 52 [some (.inr (.inr (some 63))), some (.inl (r : Int)), some (.inl (t : Int)), some (.inl s), some (.inl (n : Int)), some (.inl (j : Int))] [] G1 (setR h 74 F) Q = match sc (fun g => picB g (fun c => h 67 (40 * r + c))) n (h 64) m j with
    | some c => Q (some (.inl (n : Int))) G1 (lmv (setR h 74 F') t n c)
    | none => wp d 175 98 [some (.inr (.inr (some 63))), some (.inl (r : Int)), some (.inl (t : Int)), some (.inl s), some (.inl (n : Int)), some (.inl ((4 ^ n : Nat) : Int))] [] G1 (setR h 74 F') Q := by
  have g0 := g1_63
  have sh4 := shl_4 n hn
  have p4 := pow_4 n hn
  have gn : (n : Int) < 6 := by omega
  generalize 4 ^ n = p at *
  intro m
  induction m with
  | zero =>
    intro j F hj hF
    obtain rfl : j = p := by omega
    refine ⟨F, hF, fun Q => ?_⟩
    simp (disch := omega) only [X_175_52, X_175_0, X_175_1, X_175_4_t, X_175_4_f, X_175_4, X_175_7, X_175_9, X_175_10, X_175_11, X_175_14_t, X_175_14_f, X_175_14, X_175_17, X_175_18, X_175_21_t, X_175_21_f, X_175_21, X_175_24, X_175_25, X_175_26, X_175_27, X_175_28, X_175_31, X_175_32, X_175_33, X_175_34_t, X_175_34_f, X_175_34, X_175_37, X_175_38, X_175_39, X_175_40, X_175_44, X_175_46_t, X_175_46_f, X_175_46, X_175_49, X_175_50, X_175_54, X_175_55, X_175_56, X_175_58, X_175_59, X_175_60_t, X_175_60_f, X_175_60, X_175_63, X_175_64, X_175_66, X_175_68, X_175_71_t, X_175_71_f, X_175_71, X_175_74, X_175_75, X_175_76, X_175_79_t, X_175_79_f, X_175_79, X_175_82, X_175_83, X_175_84, X_175_86, X_175_88, X_175_91, X_175_92, X_175_95, X_175_98, X_175_101, X_175_104, X_175_106, sh4, sc, fixp_i]
  | succ m ih =>
    intro j F hj hF
    have cG := fun Q => S3_goesR (d := d) (n := n) (code := j) (h := h) (F := F) (N := N) (Q := Q) hd (by omega) (by omega) hF hf
    have ty := gt_ty (code := j) (k := n) hf
    have hi2 : ∀ s, 98 ≤ s → gt j n (h 64) s = h 64 s := fun s hs => gt_hi (code := j) hs (k := n) hf.1
    obtain ⟨F', F2, c2⟩ := ih (j + 1) (gt j n (h 64)) (by omega) hi2
    by_cases eg : gb j n (h 64) = true
    · have cP := fun Q => S3_isPicR (d := d) (r := r) (h := h) (F := gt j n (h 64)) (N := N + (n : Int)) (Q := Q) hd hr ty (by omega) hw
      by_cases hp : picB (gt j n (h 64)) (fun c => h 67 (40 * r + c)) = true
      · have e : sc (fun g => picB g (fun c => h 67 (40 * r + c))) n (h 64) (m + 1) j = some j := by
          unfold sc
          rw [if_pos]
          unfold okc
          rw [eg]
          exact hp
        rw [e]
        refine ⟨gt j n (h 64), hi2, fun Q => ?_⟩
        have cL := fun Q => S3_layMoves (d := d) (t := t) (n := n) (c := j) (h := setR h 74 (gt j n (h 64))) (Q := Q) (by omega) ht (by omega) (by omega)
        conv => lhs; rw [X_175_52]
        try simp only [decide_eq_true_eq] at hp
        simp (disch := omega) only [X_175_0, X_175_1, X_175_4_t, X_175_4_f, X_175_4, X_175_7, X_175_9, X_175_10, X_175_11, X_175_14_t, X_175_14_f, X_175_14, X_175_17, X_175_18, X_175_21_t, X_175_21_f, X_175_21, X_175_24, X_175_25, X_175_26, X_175_27, X_175_28, X_175_31, X_175_32, X_175_33, X_175_34_t, X_175_34_f, X_175_34, X_175_37, X_175_38, X_175_39, X_175_40, X_175_44, X_175_46_t, X_175_46_f, X_175_46, X_175_49, X_175_50, X_175_54, X_175_55, X_175_56, X_175_58, X_175_59, X_175_60_t, X_175_60_f, X_175_60, X_175_63, X_175_64, X_175_66, X_175_68, X_175_71_t, X_175_71_f, X_175_71, X_175_74, X_175_75, X_175_76, X_175_79_t, X_175_79_f, X_175_79, X_175_82, X_175_83, X_175_84, X_175_86, X_175_88, X_175_91, X_175_92, X_175_95, X_175_98, X_175_101, X_175_104, X_175_106, sh4, r1_63_15, cG, if_pos eg, cP, hp, if_true, cL, pushR_some, fixp_i]
      · have e : sc (fun g => picB g (fun c => h 67 (40 * r + c))) n (h 64) (m + 1) j = sc (fun g => picB g (fun c => h 67 (40 * r + c))) n (h 64) m (j + 1) := by
          conv => lhs; unfold sc
          rw [if_neg]
          unfold okc
          rw [eg, Bool.true_and]
          exact hp
        rw [e]
        refine ⟨F', F2, fun Q => ?_⟩
        refine Eq.trans ?_ (c2 Q)
        conv => lhs; rw [X_175_52]
        try simp only [decide_eq_true_eq] at hp
        conv => lhs; simp (disch := omega) only [X_175_0, X_175_1, X_175_4_t, X_175_4_f, X_175_4, X_175_7, X_175_9, X_175_10, X_175_11, X_175_14_t, X_175_14_f, X_175_14, X_175_17, X_175_18, X_175_21_t, X_175_21_f, X_175_21, X_175_24, X_175_25, X_175_26, X_175_27, X_175_28, X_175_31, X_175_32, X_175_33, X_175_34_t, X_175_34_f, X_175_34, X_175_37, X_175_38, X_175_39, X_175_40, X_175_44, X_175_46_t, X_175_46_f, X_175_46, X_175_49, X_175_50, X_175_54, X_175_55, X_175_56, X_175_58, X_175_59, X_175_60_t, X_175_60_f, X_175_60, X_175_63, X_175_64, X_175_66, X_175_68, X_175_71_t, X_175_71_f, X_175_71, X_175_74, X_175_75, X_175_76, X_175_79_t, X_175_79_f, X_175_79, X_175_82, X_175_83, X_175_84, X_175_86, X_175_88, X_175_91, X_175_92, X_175_95, X_175_98, X_175_101, X_175_104, X_175_106, sh4, r1_63_15, cG, if_pos eg, cP, hp, if_false, Bool.false_eq_true, pushR_some, fixp_i, natS]
    · have e : sc (fun g => picB g (fun c => h 67 (40 * r + c))) n (h 64) (m + 1) j = sc (fun g => picB g (fun c => h 67 (40 * r + c))) n (h 64) m (j + 1) := by
        conv => lhs; unfold sc
        rw [if_neg]
        unfold okc
        rw [Bool.eq_false_iff.mpr eg, Bool.false_and]
        decide
      rw [e]
      refine ⟨F', F2, fun Q => ?_⟩
      refine Eq.trans ?_ (c2 Q)
      conv => lhs; rw [X_175_52]
      conv => lhs; simp (disch := omega) only [X_175_0, X_175_1, X_175_4_t, X_175_4_f, X_175_4, X_175_7, X_175_9, X_175_10, X_175_11, X_175_14_t, X_175_14_f, X_175_14, X_175_17, X_175_18, X_175_21_t, X_175_21_f, X_175_21, X_175_24, X_175_25, X_175_26, X_175_27, X_175_28, X_175_31, X_175_32, X_175_33, X_175_34_t, X_175_34_f, X_175_34, X_175_37, X_175_38, X_175_39, X_175_40, X_175_44, X_175_46_t, X_175_46_f, X_175_46, X_175_49, X_175_50, X_175_54, X_175_55, X_175_56, X_175_58, X_175_59, X_175_60_t, X_175_60_f, X_175_60, X_175_63, X_175_64, X_175_66, X_175_68, X_175_71_t, X_175_71_f, X_175_71, X_175_74, X_175_75, X_175_76, X_175_79_t, X_175_79_f, X_175_79, X_175_82, X_175_83, X_175_84, X_175_86, X_175_88, X_175_91, X_175_92, X_175_95, X_175_98, X_175_101, X_175_104, X_175_106, sh4, cG, if_neg eg, pushR_some, fixp_i, natS]
theorem M_picture2 {d t : Nat} {r : Nat} {s : Int} {N : Int} {h : AH} (hd : 4 ≤ d) (ht : t < 6) (hf : tyOk (h 64) N) (hN : N + 6 ≤ 900000) (hr : r < 6) (hw : ∀ c, c < 14 → -1 ≤ h 67 (40 * r + c) ∧ h 67 (40 * r + c) ≤ 9) : ∀ (m i : Nat) (F : TF) (l5 : Option AV), i + m = 6 → (∀ s, 98 ≤ s → F s = h 64 s) → ∃ F' : TF, (∀ s, 98 ≤ s → F' s = h 64 s) ∧ ∀ Q, wp d 175 42 [some (.inr (.inr (some 63))), some (.inl (r : Int)), some (.inl (t : Int)), some (.inl s), some (.inl (i : Int)), l5] [] G1 (setR h 74 F) Q = Q (some (.inl (fwV (fwF (fun g => picB g (fun c => h 67 (40 * r + c))) (h 64) m i)))) G1 (lmO (setR h 74 F') t (fwF (fun g => picB g (fun c => h 67 (40 * r + c))) (h 64) m i)) := by
  have g0 := g1_63
  intro m
  induction m with
  | zero =>
    intro i F l5 hi hF
    obtain rfl : i = 6 := by omega
    refine ⟨F, hF, fun Q => ?_⟩
    simp (disch := omega) only [X_175_42, X_175_0, X_175_1, X_175_4_t, X_175_4_f, X_175_4, X_175_7, X_175_9, X_175_10, X_175_11, X_175_14_t, X_175_14_f, X_175_14, X_175_17, X_175_18, X_175_21_t, X_175_21_f, X_175_21, X_175_24, X_175_25, X_175_26, X_175_27, X_175_28, X_175_31, X_175_32, X_175_33, X_175_34_t, X_175_34_f, X_175_34, X_175_37, X_175_38, X_175_39, X_175_40, X_175_44, X_175_46_t, X_175_46_f, X_175_46, X_175_49, X_175_50, X_175_54, X_175_55, X_175_56, X_175_58, X_175_59, X_175_60_t, X_175_60_f, X_175_60, X_175_63, X_175_64, X_175_66, X_175_68, X_175_71_t, X_175_71_f, X_175_71, X_175_74, X_175_75, X_175_76, X_175_79_t, X_175_79_f, X_175_79, X_175_82, X_175_83, X_175_84, X_175_86, X_175_88, X_175_91, X_175_92, X_175_95, X_175_98, X_175_101, X_175_104, X_175_106, fwF, fwV, lmO]
  | succ m ih =>
    intro i F l5 hi hF
    obtain ⟨F1, hF1, q1⟩ := M_picture1 (d := d) (t := t) (n := i) (r := r) (s := s) (N := N) (h := h) hd ht (by omega) hf hN hr hw (4 ^ i) 0 F (by omega) hF
    rw [sc_ds] at q1
    have q0 : ∀ Q, wp d 175 42 [some (.inr (.inr (some 63))), some (.inl (r : Int)), some (.inl (t : Int)), some (.inl s), some (.inl (i : Int)), l5] [] G1 (setR h 74 F) Q = wp d 175 52 [some (.inr (.inr (some 63))), some (.inl (r : Int)), some (.inl (t : Int)), some (.inl s), some (.inl (i : Int)), some (.inl ((0 : Nat) : Int))] [] G1 (setR h 74 F) Q := fun Q => by
      conv => lhs; rw [X_175_42]
      conv => lhs; simp (disch := omega) only [X_175_0, X_175_1, X_175_4_t, X_175_4_f, X_175_4, X_175_7, X_175_9, X_175_10, X_175_11, X_175_14_t, X_175_14_f, X_175_14, X_175_17, X_175_18, X_175_21_t, X_175_21_f, X_175_21, X_175_24, X_175_25, X_175_26, X_175_27, X_175_28, X_175_31, X_175_32, X_175_33, X_175_34_t, X_175_34_f, X_175_34, X_175_37, X_175_38, X_175_39, X_175_40, X_175_44, X_175_46_t, X_175_46_f, X_175_46, X_175_49, X_175_50, X_175_54, X_175_55, X_175_56, X_175_58, X_175_59, X_175_60_t, X_175_60_f, X_175_60, X_175_63, X_175_64, X_175_66, X_175_68, X_175_71_t, X_175_71_f, X_175_71, X_175_74, X_175_75, X_175_76, X_175_79_t, X_175_79_f, X_175_79, X_175_82, X_175_83, X_175_84, X_175_86, X_175_88, X_175_91, X_175_92, X_175_95, X_175_98, X_175_101, X_175_104, X_175_106, fixp_i]
      rfl
    cases hD : ds (fun g => picB g (fun c => h 67 (40 * r + c))) i (h 64) with
    | some cc =>
      have e : fwF (fun g => picB g (fun c => h 67 (40 * r + c))) (h 64) (m + 1) i = some (i, cc) := by unfold fwF; rw [hD]
      rw [hD] at q1
      rw [e]
      exact ⟨F1, hF1, fun Q => by rw [q0, q1]; rfl⟩
    | none =>
      have e : fwF (fun g => picB g (fun c => h 67 (40 * r + c))) (h 64) (m + 1) i = fwF (fun g => picB g (fun c => h 67 (40 * r + c))) (h 64) m (i + 1) := by conv => lhs; unfold fwF; rw [hD]
      rw [hD] at q1
      rw [e]
      obtain ⟨F2, hF2, q2⟩ := ih (i + 1) F1 (some (.inl ((4 ^ i : Nat) : Int))) (by omega) hF1
      refine ⟨F2, hF2, fun Q => ?_⟩
      rw [q0, q1]
      refine Eq.trans ?_ (q2 Q)
      dsimp only
      conv => lhs; simp (disch := omega) only [X_175_0, X_175_1, X_175_4_t, X_175_4_f, X_175_4, X_175_7, X_175_9, X_175_10, X_175_11, X_175_14_t, X_175_14_f, X_175_14, X_175_17, X_175_18, X_175_21_t, X_175_21_f, X_175_21, X_175_24, X_175_25, X_175_26, X_175_27, X_175_28, X_175_31, X_175_32, X_175_33, X_175_34_t, X_175_34_f, X_175_34, X_175_37, X_175_38, X_175_39, X_175_40, X_175_44, X_175_46_t, X_175_46_f, X_175_46, X_175_49, X_175_50, X_175_54, X_175_55, X_175_56, X_175_58, X_175_59, X_175_60_t, X_175_60_f, X_175_60, X_175_63, X_175_64, X_175_66, X_175_68, X_175_71_t, X_175_71_f, X_175_71, X_175_74, X_175_75, X_175_76, X_175_79_t, X_175_79_f, X_175_79, X_175_82, X_175_83, X_175_84, X_175_86, X_175_88, X_175_91, X_175_92, X_175_95, X_175_98, X_175_101, X_175_104, X_175_106, fixp_i, natS]

theorem picB_one {g : TF} {c : Nat} {col : Int} (hc : c < 14) : picB g (fun k => if k = c then col else -1) = decide (col = -1 ∨ shF g c = col) := by
  unfold picB
  apply Bool.eq_iff_iff.mpr
  rw [allF_iff, decide_eq_true_eq]
  constructor
  · intro q
    have q1 := q c (by omega) (by omega)
    rw [decide_eq_true_eq] at q1
    dsimp only at q1
    rw [if_pos rfl] at q1
    exact q1.imp id Eq.symm
  · intro q k k1 k2
    rw [decide_eq_true_eq]
    by_cases e : k = c
    · subst e
      dsimp only
      rw [if_pos rfl]
      exact q.imp id Eq.symm
    · dsimp only
      rw [if_neg e]
      exact Or.inl rfl
theorem S_ftw {d t : Nat} {w f : TF} {N : Int} {h : AH} (hd : 11 ≤ d) (ht : t < 6) (hN : N + 5 ≤ 900000) (hw : ∀ c, c < 14 → -1 ≤ w c ∧ w c ≤ 9) (hf : tyOk f N) (eR : h 1000 = rgT) (e19 : ∀ c, c < 14 → h 19 c = w c) (T3 : TR h 3 f) (e8 : h 3 8 = 1) : ∃ h', (∀ Q, call d 108 [.inr (.inr (some 0)), .inr (.inr (some (22 + 2 * t)))] G1 h Q = Q (some (.inl (fwV (fwF (fun g => picB g w) f 6 0)))) G1 h') ∧ (∀ a, (a < 10 ∨ 17 ≤ a) → ¬ a = 20 → ¬ a = 22 + 2 * t → ¬ a = 23 + 2 * t → h' a = h a) ∧ fwR (fwF (fun g => picB g w) f 6 0) t h h' := by
  obtain ⟨d, rfl, hd2⟩ := pos_of hd
  have g0 := g1_0
  have t3 : isToy 3 := Or.inl rfl
  have t10 : isToy 10 := Or.inr (Or.inl rfl)
  have s10 := toy_s t10
  obtain ⟨ha, cA, TA, FA, A8, A9⟩ := S_takeBeads (d := d) (t := 10) (u := 3) (h := h) (f := f) (by omega) t10 t3 (by omega) T3 (Or.inr e8) hf.1
  obtain ⟨h', c1, F1, R1⟩ := L_ftw (d := d) (t := t) (w := w) (f := f) (N := N) (by omega) ht hN hw hf 6 0 ha none (by omega) (by rw [FA _ (by omega)]; exact eR) (fun c hc => by rw [FA _ (by omega)]; exact e19 c hc) TA
  refine ⟨h', fun Q => ?_, fun a a1 a2 a3 a4 => by rw [F1 a (by omega) a2 a3 a4, FA a (by omega)], ?_⟩
  · rw [C_108]
    simp (disch := omega) only [X_108_0, X_108_1, X_108_4, X_108_5, X_108_8, X_108_11, X_108_12, X_108_14, X_108_15_t, X_108_15_f, X_108_15, X_108_18, X_108_19, X_108_20, X_108_21, X_108_24_t, X_108_24_f, X_108_24, X_108_27, X_108_28, X_108_29, X_108_32, X_108_33, X_108_35, X_108_36_t, X_108_36_f, X_108_36, X_108_39, X_108_40, X_108_41, X_108_42, X_108_45, X_108_46, X_108_47, X_108_50, X_108_53, X_108_56, X_108_57, X_108_58, X_108_61, X_108_64, X_108_66, r1_0_2, r1_0_3, cA, pushR_none, fixp_r, fixp_i]
    exact c1 Q
  · have e1 := FA (22 + 2 * t) (by omega)
    have e2 := FA (23 + 2 * t) (by omega)
    revert R1
    unfold fwR
    rw [e1, e2]
    exact fun z => z
theorem fwV_b {P : TF → Bool} {f : TF} : -9 ≤ fwV (fwF P f 6 0) ∧ fwV (fwF P f 6 0) ≤ 6 := by
  cases e : fwF P f 6 0 with
  | none => unfold fwV; dsimp only; omega
  | some mc =>
    obtain ⟨m, c⟩ := mc
    have q := fwF_b e
    unfold fwV
    dsimp only
    omega
theorem Op_fewest {x y z : Int} (h_x : -2147483648 ≤ x ∧ x < 2147483648) (h_y : -2147483648 ≤ y ∧ y < 2147483648) (h_z : -2147483648 ≤ z ∧ z < 2147483648) : OpI 60 172 [.inl x, .inl y, .inl z] := by
  intro n h H hn
  have g0 := g1_0
  have g1 := g1_1
  have g3 := g1_3
  have g19 := g1_19
  have g63 := g1_63
  rcases LIV_c H with L | L
  · refine OpI_same (r := -4) (by omega) H (fun Q => ?_) (fun Q => ?_)
    · rw [C_60]
      simp (disch := omega) only [X_60_0, X_60_1, X_60_4, X_60_7_t, X_60_7_f, X_60_7, X_60_10, X_60_12, X_60_13, X_60_14, X_60_17_t, X_60_17_f, X_60_17, X_60_20, X_60_21, X_60_24_t, X_60_24_f, X_60_24, X_60_27, X_60_28, X_60_31_t, X_60_31_f, X_60_31, X_60_34, X_60_35, X_60_36, X_60_37, X_60_40, X_60_41, X_60_44, X_60_45, X_60_48, X_60_49, X_60_50, X_60_51, X_60_52, X_60_53, X_60_56, X_60_57, X_60_58, X_60_61, r1_0_2]
    · rw [C_172]
      simp (disch := omega) only [X_172_0, X_172_1, X_172_4_t, X_172_4_f, X_172_4, X_172_7, X_172_9, X_172_10, X_172_11, X_172_14_t, X_172_14_f, X_172_14, X_172_17, X_172_18, X_172_21_t, X_172_21_f, X_172_21, X_172_24, X_172_25, X_172_28_t, X_172_28_f, X_172_28, X_172_31, X_172_32, X_172_33, X_172_34, X_172_38, X_172_40_t, X_172_40_f, X_172_40, X_172_43, X_172_44, X_172_48, X_172_49, X_172_50, X_172_52, X_172_53, X_172_54_t, X_172_54_f, X_172_54, X_172_57, X_172_58, X_172_60, X_172_62, X_172_65_t, X_172_65_f, X_172_65, X_172_68, X_172_69, X_172_72, X_172_73, X_172_76, X_172_77_t, X_172_77_f, X_172_77, X_172_80, X_172_81, X_172_82, X_172_84, X_172_86, X_172_89, X_172_90, X_172_93, X_172_96, X_172_99, X_172_102, X_172_104]
  obtain ⟨L1, L2, L3⟩ := L
  by_cases hx : 0 ≤ x ∧ x < 14
  case neg =>
    refine OpI_same (r := -1) (by omega) H (fun Q => ?_) (fun Q => ?_)
    · rw [C_60]
      simp (disch := omega) only [X_60_0, X_60_1, X_60_4, X_60_7_t, X_60_7_f, X_60_7, X_60_10, X_60_12, X_60_13, X_60_14, X_60_17_t, X_60_17_f, X_60_17, X_60_20, X_60_21, X_60_24_t, X_60_24_f, X_60_24, X_60_27, X_60_28, X_60_31_t, X_60_31_f, X_60_31, X_60_34, X_60_35, X_60_36, X_60_37, X_60_40, X_60_41, X_60_44, X_60_45, X_60_48, X_60_49, X_60_50, X_60_51, X_60_52, X_60_53, X_60_56, X_60_57, X_60_58, X_60_61, r1_0_2, S_isCell_f, pushR_some]
    · rw [C_172]
      simp (disch := omega) only [X_172_0, X_172_1, X_172_4_t, X_172_4_f, X_172_4, X_172_7, X_172_9, X_172_10, X_172_11, X_172_14_t, X_172_14_f, X_172_14, X_172_17, X_172_18, X_172_21_t, X_172_21_f, X_172_21, X_172_24, X_172_25, X_172_28_t, X_172_28_f, X_172_28, X_172_31, X_172_32, X_172_33, X_172_34, X_172_38, X_172_40_t, X_172_40_f, X_172_40, X_172_43, X_172_44, X_172_48, X_172_49, X_172_50, X_172_52, X_172_53, X_172_54_t, X_172_54_f, X_172_54, X_172_57, X_172_58, X_172_60, X_172_62, X_172_65_t, X_172_65_f, X_172_65, X_172_68, X_172_69, X_172_72, X_172_73, X_172_76, X_172_77_t, X_172_77_f, X_172_77, X_172_80, X_172_81, X_172_82, X_172_84, X_172_86, X_172_89, X_172_90, X_172_93, X_172_96, X_172_99, X_172_102, X_172_104, S3_isCell_f, pushR_some]
  by_cases hy : 0 ≤ y ∧ y < 10
  case neg =>
    refine OpI_same (r := -1) (by omega) H (fun Q => ?_) (fun Q => ?_)
    · rw [C_60]
      simp (disch := omega) only [X_60_0, X_60_1, X_60_4, X_60_7_t, X_60_7_f, X_60_7, X_60_10, X_60_12, X_60_13, X_60_14, X_60_17_t, X_60_17_f, X_60_17, X_60_20, X_60_21, X_60_24_t, X_60_24_f, X_60_24, X_60_27, X_60_28, X_60_31_t, X_60_31_f, X_60_31, X_60_34, X_60_35, X_60_36, X_60_37, X_60_40, X_60_41, X_60_44, X_60_45, X_60_48, X_60_49, X_60_50, X_60_51, X_60_52, X_60_53, X_60_56, X_60_57, X_60_58, X_60_61, r1_0_2, S_isCell_t, S_isColour_f, pushR_some]
    · rw [C_172]
      simp (disch := omega) only [X_172_0, X_172_1, X_172_4_t, X_172_4_f, X_172_4, X_172_7, X_172_9, X_172_10, X_172_11, X_172_14_t, X_172_14_f, X_172_14, X_172_17, X_172_18, X_172_21_t, X_172_21_f, X_172_21, X_172_24, X_172_25, X_172_28_t, X_172_28_f, X_172_28, X_172_31, X_172_32, X_172_33, X_172_34, X_172_38, X_172_40_t, X_172_40_f, X_172_40, X_172_43, X_172_44, X_172_48, X_172_49, X_172_50, X_172_52, X_172_53, X_172_54_t, X_172_54_f, X_172_54, X_172_57, X_172_58, X_172_60, X_172_62, X_172_65_t, X_172_65_f, X_172_65, X_172_68, X_172_69, X_172_72, X_172_73, X_172_76, X_172_77_t, X_172_77_f, X_172_77, X_172_80, X_172_81, X_172_82, X_172_84, X_172_86, X_172_89, X_172_90, X_172_93, X_172_96, X_172_99, X_172_102, X_172_104, S3_isCell_t, S3_isColour_f, pushR_some]
  by_cases hz : 0 ≤ z ∧ z < 6
  case neg =>
    refine OpI_same (r := -1) (by omega) H (fun Q => ?_) (fun Q => ?_)
    · rw [C_60]
      simp (disch := omega) only [X_60_0, X_60_1, X_60_4, X_60_7_t, X_60_7_f, X_60_7, X_60_10, X_60_12, X_60_13, X_60_14, X_60_17_t, X_60_17_f, X_60_17, X_60_20, X_60_21, X_60_24_t, X_60_24_f, X_60_24, X_60_27, X_60_28, X_60_31_t, X_60_31_f, X_60_31, X_60_34, X_60_35, X_60_36, X_60_37, X_60_40, X_60_41, X_60_44, X_60_45, X_60_48, X_60_49, X_60_50, X_60_51, X_60_52, X_60_53, X_60_56, X_60_57, X_60_58, X_60_61, r1_0_2, S_isCell_t, S_isColour_t, S_isRow_f, pushR_some]
    · rw [C_172]
      simp (disch := omega) only [X_172_0, X_172_1, X_172_4_t, X_172_4_f, X_172_4, X_172_7, X_172_9, X_172_10, X_172_11, X_172_14_t, X_172_14_f, X_172_14, X_172_17, X_172_18, X_172_21_t, X_172_21_f, X_172_21, X_172_24, X_172_25, X_172_28_t, X_172_28_f, X_172_28, X_172_31, X_172_32, X_172_33, X_172_34, X_172_38, X_172_40_t, X_172_40_f, X_172_40, X_172_43, X_172_44, X_172_48, X_172_49, X_172_50, X_172_52, X_172_53, X_172_54_t, X_172_54_f, X_172_54, X_172_57, X_172_58, X_172_60, X_172_62, X_172_65_t, X_172_65_f, X_172_65, X_172_68, X_172_69, X_172_72, X_172_73, X_172_76, X_172_77_t, X_172_77_f, X_172_77, X_172_80, X_172_81, X_172_82, X_172_84, X_172_86, X_172_89, X_172_90, X_172_93, X_172_96, X_172_99, X_172_102, X_172_104, S3_isCell_t, S3_isColour_t, S3_isRow_f, pushR_some]
  obtain ⟨c, rfl⟩ := nat_of hx.1
  obtain ⟨t, rfl⟩ := nat_of hz.1
  have hc : c < 14 := by omega
  have ht : t < 6 := by omega
  have hT := rows_r ht
  have hf := FUL_ty L3
  have h0 := H.2.2.2.2.1.2.2.2
  have cF : ∀ Q, call 29 210 [.inr (.inr (some 19)), .inl (-1)] G1 h Q = Q none G1 (setR h 19 (mixR 14 (fun _ => -1) (h 19))) := fun Q => S_fill (n := 14) (by omega) (by omega)
  generalize eV : put (setR h 19 (mixR 14 (fun _ => -1) (h 19))) 19 c y = hv
  have vo : ∀ a, ¬ a = 19 → hv a = h a := fun a z => by rw [← eV, put_row z, setR_n z]
  have v19 : ∀ k, k < 14 → hv 19 k = (fun k => if k = c then y else -1) k := fun k hk => by
    rw [← eV, put_set, setR_s, setR_s]
    by_cases e : k = c
    · subst e; rw [putR_s]; dsimp only; rw [if_pos rfl]
    · rw [putR_n e, mix_lt hk]; dsimp only; rw [if_neg e]
  have T3 : TR hv 3 (h 64) := TR_keep L3.1 (vo _ (by omega)) (vo _ (by omega)) (vo _ (by omega)) (vo _ (by omega)) (vo _ (by omega)) (by rw [vo _ (by omega)])
  have hw : ∀ k, k < 14 → -1 ≤ (fun k => if k = c then y else -1) k ∧ (fun k => if k = c then y else -1) k ≤ 9 := fun k hk => by dsimp only; split <;> omega
  obtain ⟨hd, cW, FW, RW⟩ := S_ftw (d := 29) (t := t) (w := fun k => if k = c then y else -1) (f := h 64) (N := 40) (h := hv) (by omega) ht (by omega) hw hf (by rw [vo _ (by omega)]; exact H.1) v19 T3 (by rw [vo _ (by omega)]; exact L2)
  have eP : (fun g => picB g (fun k => if k = c then y else -1)) = fun g => decide (shF g c = y) := by
    funext g
    rw [picB_one hc]
    by_cases e : shF g c = y
    · rw [decide_eq_true e, decide_eq_true (Or.inr e)]
    · rw [decide_eq_false e, decide_eq_false (fun q => q.elim (by omega) e)]
  rw [eP] at cW RW
  have fd : ∀ a, (a < 10 ∨ 17 ≤ a) → ¬ a = 19 → ¬ a = 20 → ¬ a = 22 + 2 * t → ¬ a = 23 + 2 * t → hd a = h a := fun a a1 a2 a3 a4 a5 => by rw [FW a a1 a3 a4 a5, vo a a2]
  have RW2 : fwR (fwF (fun g => decide (shF g c = y)) (h 64) 6 0) t h hd := by
    have e1 := vo (22 + 2 * t) (by omega)
    have e2 := vo (23 + 2 * t) (by omega)
    revert RW
    unfold fwR
    rw [e1, e2]
    exact fun z => z
  have d64 : hd 64 = h 64 := fd 64 (by omega) (by omega) (by omega) (by omega) (by omega)
  have d63 : hd 63 1 = 1 := by rw [fd 63 (by omega) (by omega) (by omega) (by omega) (by omega), L1]
  have d74 : ∀ s, 98 ≤ s → hd 74 s = 0 := fun s hs => by rw [fd 74 (by omega) (by omega) (by omega) (by omega) (by omega)]; exact H.2.1 s hs
  obtain ⟨F, qF, q1⟩ := M_fewest2 (d := 29) (t := t) (c := c) (col := y) (N := 40) (h := hd) (by omega) ht (by rw [d64]; exact hf) (by omega) hc (by omega) 6 0 (hd 74) none (by omega) (fun s hs => by rw [d74 s hs, d64, h0 s hs])
  rw [d64, setR_e] at q1
  have bb := fwV_b (P := fun g => decide (shF g c = y)) (f := h 64)
  refine ⟨fwV (fwF (fun g => decide (shF g c = y)) (h 64) 6 0), hd, lmO (setR hd 74 F) t (fwF (fun g => decide (shF g c = y)) (h 64) 6 0), by omega, fun Q => ?_, fun Q => ?_, INV_same (fw_inv ht H fd RW2 (fun s hs => by rw [qF s hs, d64]; exact h0 s hs) (fun m cc e => by have := fwF_b e; omega))⟩
  · rw [C_60]
    simp (disch := omega) only [X_60_0, X_60_1, X_60_4, X_60_7_t, X_60_7_f, X_60_7, X_60_10, X_60_12, X_60_13, X_60_14, X_60_17_t, X_60_17_f, X_60_17, X_60_20, X_60_21, X_60_24_t, X_60_24_f, X_60_24, X_60_27, X_60_28, X_60_31_t, X_60_31_f, X_60_31, X_60_34, X_60_35, X_60_36, X_60_37, X_60_40, X_60_41, X_60_44, X_60_45, X_60_48, X_60_49, X_60_50, X_60_51, X_60_52, X_60_53, X_60_56, X_60_57, X_60_58, X_60_61, r1_0_2, r1_0_0, r1_0_6, S_isCell_t, S_isColour_t, S_isRow_t, cF, Int.toNat_natCast, eV, hT.1, cW, pushR_some, pushR_none, fixp_i]
  · rw [C_172]
    simp (disch := omega) only [X_172_0, X_172_1, X_172_4_t, X_172_4_f, X_172_4, X_172_7, X_172_9, X_172_10, X_172_11, X_172_14_t, X_172_14_f, X_172_14, X_172_17, X_172_18, X_172_21_t, X_172_21_f, X_172_21, X_172_24, X_172_25, X_172_28_t, X_172_28_f, X_172_28, X_172_31, X_172_32, X_172_33, X_172_34, X_172_38, X_172_40_t, X_172_40_f, X_172_40, X_172_43, X_172_44, X_172_48, X_172_49, X_172_50, X_172_52, X_172_53, X_172_54_t, X_172_54_f, X_172_54, X_172_57, X_172_58, X_172_60, X_172_62, X_172_65_t, X_172_65_f, X_172_65, X_172_68, X_172_69, X_172_72, X_172_73, X_172_76, X_172_77_t, X_172_77_f, X_172_77, X_172_80, X_172_81, X_172_82, X_172_84, X_172_86, X_172_89, X_172_90, X_172_93, X_172_96, X_172_99, X_172_102, X_172_104, S3_isCell_t, S3_isColour_t, S3_isRow_t, pushR_some, pushR_none, fixp_i]
    exact q1 Q
theorem Op_picture {x z : Int} (h_x : -2147483648 ≤ x ∧ x < 2147483648) (h_z : -2147483648 ≤ z ∧ z < 2147483648) : OpI 61 175 [.inl x, .inl z] := by
  intro n h H hn
  have g0 := g1_0
  have g1 := g1_1
  have g3 := g1_3
  have g63 := g1_63
  have t3 : isToy 3 := Or.inl rfl
  have t10 : isToy 10 := Or.inr (Or.inl rfl)
  have s10 := toy_s t10
  rcases LIV_c H with L | L
  · refine OpI_same (r := -4) (by omega) H (fun Q => ?_) (fun Q => ?_)
    · rw [C_61]
      simp (disch := omega) only [X_61_0, X_61_1, X_61_4, X_61_7_t, X_61_7_f, X_61_7, X_61_10, X_61_12, X_61_13, X_61_14, X_61_17_t, X_61_17_f, X_61_17, X_61_20, X_61_21, X_61_24_t, X_61_24_f, X_61_24, X_61_27, X_61_28, X_61_29, X_61_30, X_61_31, X_61_34, X_61_35, X_61_36, X_61_39, X_61_40, X_61_41_t, X_61_41_f, X_61_41, X_61_44, X_61_45, X_61_46, X_61_47, X_61_48, X_61_51, X_61_52, X_61_53, X_61_56, X_61_57, X_61_58, X_61_61, X_61_62, X_61_63, X_61_66, r1_0_2]
    · rw [C_175]
      simp (disch := omega) only [X_175_0, X_175_1, X_175_4_t, X_175_4_f, X_175_4, X_175_7, X_175_9, X_175_10, X_175_11, X_175_14_t, X_175_14_f, X_175_14, X_175_17, X_175_18, X_175_21_t, X_175_21_f, X_175_21, X_175_24, X_175_25, X_175_26, X_175_27, X_175_28, X_175_31, X_175_32, X_175_33, X_175_34_t, X_175_34_f, X_175_34, X_175_37, X_175_38, X_175_39, X_175_40, X_175_44, X_175_46_t, X_175_46_f, X_175_46, X_175_49, X_175_50, X_175_54, X_175_55, X_175_56, X_175_58, X_175_59, X_175_60_t, X_175_60_f, X_175_60, X_175_63, X_175_64, X_175_66, X_175_68, X_175_71_t, X_175_71_f, X_175_71, X_175_74, X_175_75, X_175_76, X_175_79_t, X_175_79_f, X_175_79, X_175_82, X_175_83, X_175_84, X_175_86, X_175_88, X_175_91, X_175_92, X_175_95, X_175_98, X_175_101, X_175_104, X_175_106]
  obtain ⟨L1, L2, L3⟩ := L
  by_cases h1 : 0 ≤ x ∧ x < 6
  case neg =>
    refine OpI_same (r := -1) (by omega) H (fun Q => ?_) (fun Q => ?_)
    · rw [C_61]
      simp (disch := omega) only [X_61_0, X_61_1, X_61_4, X_61_7_t, X_61_7_f, X_61_7, X_61_10, X_61_12, X_61_13, X_61_14, X_61_17_t, X_61_17_f, X_61_17, X_61_20, X_61_21, X_61_24_t, X_61_24_f, X_61_24, X_61_27, X_61_28, X_61_29, X_61_30, X_61_31, X_61_34, X_61_35, X_61_36, X_61_39, X_61_40, X_61_41_t, X_61_41_f, X_61_41, X_61_44, X_61_45, X_61_46, X_61_47, X_61_48, X_61_51, X_61_52, X_61_53, X_61_56, X_61_57, X_61_58, X_61_61, X_61_62, X_61_63, X_61_66, r1_0_2, S_isRow_f, pushR_some]
    · rw [C_175]
      simp (disch := omega) only [X_175_0, X_175_1, X_175_4_t, X_175_4_f, X_175_4, X_175_7, X_175_9, X_175_10, X_175_11, X_175_14_t, X_175_14_f, X_175_14, X_175_17, X_175_18, X_175_21_t, X_175_21_f, X_175_21, X_175_24, X_175_25, X_175_26, X_175_27, X_175_28, X_175_31, X_175_32, X_175_33, X_175_34_t, X_175_34_f, X_175_34, X_175_37, X_175_38, X_175_39, X_175_40, X_175_44, X_175_46_t, X_175_46_f, X_175_46, X_175_49, X_175_50, X_175_54, X_175_55, X_175_56, X_175_58, X_175_59, X_175_60_t, X_175_60_f, X_175_60, X_175_63, X_175_64, X_175_66, X_175_68, X_175_71_t, X_175_71_f, X_175_71, X_175_74, X_175_75, X_175_76, X_175_79_t, X_175_79_f, X_175_79, X_175_82, X_175_83, X_175_84, X_175_86, X_175_88, X_175_91, X_175_92, X_175_95, X_175_98, X_175_101, X_175_104, X_175_106, S3_isRow_f, pushR_some]
  by_cases h1t : 0 ≤ z ∧ z < 6
  case neg =>
    refine OpI_same (r := -1) (by omega) H (fun Q => ?_) (fun Q => ?_)
    · rw [C_61]
      simp (disch := omega) only [X_61_0, X_61_1, X_61_4, X_61_7_t, X_61_7_f, X_61_7, X_61_10, X_61_12, X_61_13, X_61_14, X_61_17_t, X_61_17_f, X_61_17, X_61_20, X_61_21, X_61_24_t, X_61_24_f, X_61_24, X_61_27, X_61_28, X_61_29, X_61_30, X_61_31, X_61_34, X_61_35, X_61_36, X_61_39, X_61_40, X_61_41_t, X_61_41_f, X_61_41, X_61_44, X_61_45, X_61_46, X_61_47, X_61_48, X_61_51, X_61_52, X_61_53, X_61_56, X_61_57, X_61_58, X_61_61, X_61_62, X_61_63, X_61_66, r1_0_2, S_isRow_t, S_isRow_f, pushR_some]
    · rw [C_175]
      simp (disch := omega) only [X_175_0, X_175_1, X_175_4_t, X_175_4_f, X_175_4, X_175_7, X_175_9, X_175_10, X_175_11, X_175_14_t, X_175_14_f, X_175_14, X_175_17, X_175_18, X_175_21_t, X_175_21_f, X_175_21, X_175_24, X_175_25, X_175_26, X_175_27, X_175_28, X_175_31, X_175_32, X_175_33, X_175_34_t, X_175_34_f, X_175_34, X_175_37, X_175_38, X_175_39, X_175_40, X_175_44, X_175_46_t, X_175_46_f, X_175_46, X_175_49, X_175_50, X_175_54, X_175_55, X_175_56, X_175_58, X_175_59, X_175_60_t, X_175_60_f, X_175_60, X_175_63, X_175_64, X_175_66, X_175_68, X_175_71_t, X_175_71_f, X_175_71, X_175_74, X_175_75, X_175_76, X_175_79_t, X_175_79_f, X_175_79, X_175_82, X_175_83, X_175_84, X_175_86, X_175_88, X_175_91, X_175_92, X_175_95, X_175_98, X_175_101, X_175_104, X_175_106, S3_isRow_t, S3_isRow_f, pushR_some]
  obtain ⟨r, rfl⟩ := nat_of h1.1
  obtain ⟨t, rfl⟩ := nat_of h1t.1
  have ht : t < 6 := by omega
  have hT := rows_r ht
  have hr : r < 6 := by omega
  have hR := rows_r hr
  have sR := rw_s hR.2
  have R := H.2.2.1 r hr
  have R' := R
  obtain ⟨R1, R2, R3, R4, R5⟩ := R'
  by_cases h2 : h 68 r < 0
  case pos =>
    have cF : ∀ Q, call 29 91 [.inr (.inr (some 0)), .inr (.inr (some (22 + 2 * r)))] G1 h Q = Q (some (.inl (-3))) G1 (fnd h 1) := fun Q => S_pcr_m (by omega) hr R h2
    have w68 : fnd h 1 68 r = h 68 r := by rw [fnd_o (by omega) (by omega)]
    have w63 : fnd h 1 63 1 = 1 := by rw [fnd_o (by omega) (by omega)]; exact L1
    refine OpI_find (w := 1) (by omega) H (fun Q => ?_) (fun Q => ?_)
    · rw [C_61]
      simp (disch := omega) only [X_61_0, X_61_1, X_61_4, X_61_7_t, X_61_7_f, X_61_7, X_61_10, X_61_12, X_61_13, X_61_14, X_61_17_t, X_61_17_f, X_61_17, X_61_20, X_61_21, X_61_24_t, X_61_24_f, X_61_24, X_61_27, X_61_28, X_61_29, X_61_30, X_61_31, X_61_34, X_61_35, X_61_36, X_61_39, X_61_40, X_61_41_t, X_61_41_f, X_61_41, X_61_44, X_61_45, X_61_46, X_61_47, X_61_48, X_61_51, X_61_52, X_61_53, X_61_56, X_61_57, X_61_58, X_61_61, X_61_62, X_61_63, X_61_66, r1_0_2, r1_0_0, S_isRow_t, Int.toNat_natCast, hR.1, cF, pushR_some, fixp_i]
    · rw [C_175]
      simp (disch := omega) only [X_175_0, X_175_1, X_175_4_t, X_175_4_f, X_175_4, X_175_7, X_175_9, X_175_10, X_175_11, X_175_14_t, X_175_14_f, X_175_14, X_175_17, X_175_18, X_175_21_t, X_175_21_f, X_175_21, X_175_24, X_175_25, X_175_26, X_175_27, X_175_28, X_175_31, X_175_32, X_175_33, X_175_34_t, X_175_34_f, X_175_34, X_175_37, X_175_38, X_175_39, X_175_40, X_175_44, X_175_46_t, X_175_46_f, X_175_46, X_175_49, X_175_50, X_175_54, X_175_55, X_175_56, X_175_58, X_175_59, X_175_60_t, X_175_60_f, X_175_60, X_175_63, X_175_64, X_175_66, X_175_68, X_175_71_t, X_175_71_f, X_175_71, X_175_74, X_175_75, X_175_76, X_175_79_t, X_175_79_f, X_175_79, X_175_82, X_175_83, X_175_84, X_175_86, X_175_88, X_175_91, X_175_92, X_175_95, X_175_98, X_175_101, X_175_104, X_175_106, S3_isRow_t, S3_lp_m, pushR_some, fixp_i]
  by_cases h3 : h 68 r = 14
  case neg =>
    have cF : ∀ Q, call 29 91 [.inr (.inr (some 0)), .inr (.inr (some (22 + 2 * r)))] G1 h Q = Q (some (.inl (-3))) G1 (fnd h 5) := fun Q => S_pcr_s (by omega) hr R (by omega) (by omega)
    have w68 : fnd h 5 68 r = h 68 r := by rw [fnd_o (by omega) (by omega)]
    have w63 : fnd h 5 63 1 = 1 := by rw [fnd_o (by omega) (by omega)]; exact L1
    refine OpI_find (w := 5) (by omega) H (fun Q => ?_) (fun Q => ?_)
    · rw [C_61]
      simp (disch := omega) only [X_61_0, X_61_1, X_61_4, X_61_7_t, X_61_7_f, X_61_7, X_61_10, X_61_12, X_61_13, X_61_14, X_61_17_t, X_61_17_f, X_61_17, X_61_20, X_61_21, X_61_24_t, X_61_24_f, X_61_24, X_61_27, X_61_28, X_61_29, X_61_30, X_61_31, X_61_34, X_61_35, X_61_36, X_61_39, X_61_40, X_61_41_t, X_61_41_f, X_61_41, X_61_44, X_61_45, X_61_46, X_61_47, X_61_48, X_61_51, X_61_52, X_61_53, X_61_56, X_61_57, X_61_58, X_61_61, X_61_62, X_61_63, X_61_66, r1_0_2, r1_0_0, S_isRow_t, Int.toNat_natCast, hR.1, cF, pushR_some, fixp_i]
    · rw [C_175]
      simp (disch := omega) only [X_175_0, X_175_1, X_175_4_t, X_175_4_f, X_175_4, X_175_7, X_175_9, X_175_10, X_175_11, X_175_14_t, X_175_14_f, X_175_14, X_175_17, X_175_18, X_175_21_t, X_175_21_f, X_175_21, X_175_24, X_175_25, X_175_26, X_175_27, X_175_28, X_175_31, X_175_32, X_175_33, X_175_34_t, X_175_34_f, X_175_34, X_175_37, X_175_38, X_175_39, X_175_40, X_175_44, X_175_46_t, X_175_46_f, X_175_46, X_175_49, X_175_50, X_175_54, X_175_55, X_175_56, X_175_58, X_175_59, X_175_60_t, X_175_60_f, X_175_60, X_175_63, X_175_64, X_175_66, X_175_68, X_175_71_t, X_175_71_f, X_175_71, X_175_74, X_175_75, X_175_76, X_175_79_t, X_175_79_f, X_175_79, X_175_82, X_175_83, X_175_84, X_175_86, X_175_88, X_175_91, X_175_92, X_175_95, X_175_98, X_175_101, X_175_104, X_175_106, S3_isRow_t, S3_lp_s, pushR_some, fixp_i]
  have cF : ∀ Q, call 29 91 [.inr (.inr (some 0)), .inr (.inr (some (22 + 2 * r)))] G1 h Q = _ := fun Q => S_pcr_a (by omega) hr R (by omega)
  have cL : ∀ (h' : AH) Q, h' 67 = h 67 → h' 68 = h 68 → call 29 173 [.inr (.inr (some 63)), .inl (r : Int)] G1 h' Q = if pcOk h r = true then Q (some (.inl 1)) G1 h' else Q (some (.inl (-3))) G1 (fn3 h' 3) := fun h' Q e1 e2 => by
    have e3 : pcOk h' r = pcOk h r := by unfold pcOk; rw [e1]
    rw [S3_lp_a (by omega) hr (by rw [e2]; omega) (fun k hk => by rw [e1]; rw [e2] at hk; exact (R5 k hk).2), e3]
  by_cases hm : pcOk h r = true
  case neg =>
    have cL2 := fun Q => cL (fnd h 3) Q (fnd_o (by omega) (by omega)) (fnd_o (by omega) (by omega))
    have w63 : fnd h 3 63 1 = 1 := by rw [fnd_o (by omega) (by omega)]; exact L1
    refine OpI_find (w := 3) (by omega) H (fun Q => ?_) (fun Q => ?_)
    · rw [C_61]
      simp (disch := omega) only [X_61_0, X_61_1, X_61_4, X_61_7_t, X_61_7_f, X_61_7, X_61_10, X_61_12, X_61_13, X_61_14, X_61_17_t, X_61_17_f, X_61_17, X_61_20, X_61_21, X_61_24_t, X_61_24_f, X_61_24, X_61_27, X_61_28, X_61_29, X_61_30, X_61_31, X_61_34, X_61_35, X_61_36, X_61_39, X_61_40, X_61_41_t, X_61_41_f, X_61_41, X_61_44, X_61_45, X_61_46, X_61_47, X_61_48, X_61_51, X_61_52, X_61_53, X_61_56, X_61_57, X_61_58, X_61_61, X_61_62, X_61_63, X_61_66, r1_0_2, r1_0_0, S_isRow_t, Int.toNat_natCast, hR.1, cF, if_neg hm, pushR_some, fixp_i]
    · rw [C_175]
      simp (disch := omega) only [X_175_0, X_175_1, X_175_4_t, X_175_4_f, X_175_4, X_175_7, X_175_9, X_175_10, X_175_11, X_175_14_t, X_175_14_f, X_175_14, X_175_17, X_175_18, X_175_21_t, X_175_21_f, X_175_21, X_175_24, X_175_25, X_175_26, X_175_27, X_175_28, X_175_31, X_175_32, X_175_33, X_175_34_t, X_175_34_f, X_175_34, X_175_37, X_175_38, X_175_39, X_175_40, X_175_44, X_175_46_t, X_175_46_f, X_175_46, X_175_49, X_175_50, X_175_54, X_175_55, X_175_56, X_175_58, X_175_59, X_175_60_t, X_175_60_f, X_175_60, X_175_63, X_175_64, X_175_66, X_175_68, X_175_71_t, X_175_71_f, X_175_71, X_175_74, X_175_75, X_175_76, X_175_79_t, X_175_79_f, X_175_79, X_175_82, X_175_83, X_175_84, X_175_86, X_175_88, X_175_91, X_175_92, X_175_95, X_175_98, X_175_101, X_175_104, X_175_106, S3_isRow_t, cL2, if_neg hm, pushR_some, fixp_i]
  have mk := pcOk_iff hm
  have hf := FUL_ty L3
  have h0 := H.2.2.2.2.1.2.2.2
  have cW : ∀ Q, call 29 107 [.inr (.inr (some 0)), .inr (.inr (some (22 + 2 * r)))] G1 h Q = Q none G1 (setR h 19 (mixR 14 (h (23 + 2 * r)) (h 19))) := fun Q => S_want (by omega) hr
  generalize eW : setR h 19 (mixR 14 (h (23 + 2 * r)) (h 19)) = hv at cW
  have vo : ∀ a, ¬ a = 19 → hv a = h a := fun a z => by rw [← eW, setR_n z]
  have v19 : ∀ c, c < 14 → hv 19 c = (fun c => h 67 (40 * r + c)) c := fun c hc => by rw [← eW, setR_s, mix_lt hc, (R5 c (by omega)).1]
  have T3 : TR hv 3 (h 64) := TR_keep L3.1 (vo _ (by omega)) (vo _ (by omega)) (vo _ (by omega)) (vo _ (by omega)) (vo _ (by omega)) (by rw [vo _ (by omega)])
  obtain ⟨hd, cV, FW, RW⟩ := S_ftw (d := 29) (t := t) (w := fun c => h 67 (40 * r + c)) (f := h 64) (N := 40) (h := hv) (by omega) ht (by omega) mk hf (by rw [vo _ (by omega)]; exact H.1) v19 T3 (by rw [vo _ (by omega)]; exact L2)
  have fd : ∀ a, (a < 10 ∨ 17 ≤ a) → ¬ a = 19 → ¬ a = 20 → ¬ a = 22 + 2 * t → ¬ a = 23 + 2 * t → hd a = h a := fun a a1 a2 a3 a4 a5 => by rw [FW a a1 a3 a4 a5, vo a a2]
  have RW2 : fwR (fwF (fun g => picB g (fun c => h 67 (40 * r + c))) (h 64) 6 0) t h hd := by
    have e1 := vo (22 + 2 * t) (by omega)
    have e2 := vo (23 + 2 * t) (by omega)
    revert RW
    unfold fwR
    rw [e1, e2]
    exact fun z => z
  have d67 : hd 67 = h 67 := fd 67 (by omega) (by omega) (by omega) (by omega) (by omega)
  have d68 : hd 68 = h 68 := fd 68 (by omega) (by omega) (by omega) (by omega) (by omega)
  have d64 : hd 64 = h 64 := fd 64 (by omega) (by omega) (by omega) (by omega) (by omega)
  have d63 : hd 63 1 = 1 := by rw [fd 63 (by omega) (by omega) (by omega) (by omega) (by omega), L1]
  have d74 : ∀ s, 98 ≤ s → hd 74 s = 0 := fun s hs => by rw [fd 74 (by omega) (by omega) (by omega) (by omega) (by omega)]; exact H.2.1 s hs
  have cL2 := fun Q => cL hd Q d67 d68
  obtain ⟨F, qF, q1⟩ := M_picture2 (d := 29) (t := t) (r := r) (s := 1) (N := 40) (h := hd) (by omega) ht (by rw [d64]; exact hf) (by omega) hr (by rw [d67]; exact mk) 6 0 (hd 74) none (by omega) (fun s hs => by rw [d74 s hs, d64, h0 s hs])
  rw [d64, d67, setR_e] at q1
  have bb := fwV_b (P := fun g => picB g (fun c => h 67 (40 * r + c))) (f := h 64)
  refine ⟨fwV (fwF (fun g => picB g (fun c => h 67 (40 * r + c))) (h 64) 6 0), hd, lmO (setR hd 74 F) t (fwF (fun g => picB g (fun c => h 67 (40 * r + c))) (h 64) 6 0), by omega, fun Q => ?_, fun Q => ?_, INV_same (fw_inv ht H fd RW2 (fun s hs => by rw [qF s hs, d64]; exact h0 s hs) (fun m cc e => by have := fwF_b e; omega))⟩
  · rw [C_61]
    simp (disch := omega) only [X_61_0, X_61_1, X_61_4, X_61_7_t, X_61_7_f, X_61_7, X_61_10, X_61_12, X_61_13, X_61_14, X_61_17_t, X_61_17_f, X_61_17, X_61_20, X_61_21, X_61_24_t, X_61_24_f, X_61_24, X_61_27, X_61_28, X_61_29, X_61_30, X_61_31, X_61_34, X_61_35, X_61_36, X_61_39, X_61_40, X_61_41_t, X_61_41_f, X_61_41, X_61_44, X_61_45, X_61_46, X_61_47, X_61_48, X_61_51, X_61_52, X_61_53, X_61_56, X_61_57, X_61_58, X_61_61, X_61_62, X_61_63, X_61_66, r1_0_2, r1_0_0, S_isRow_t, Int.toNat_natCast, hR.1, hT.1, cF, if_pos hm, cW, cV, pushR_some, pushR_none, fixp_i]
  · rw [C_175]
    simp (disch := omega) only [X_175_0, X_175_1, X_175_4_t, X_175_4_f, X_175_4, X_175_7, X_175_9, X_175_10, X_175_11, X_175_14_t, X_175_14_f, X_175_14, X_175_17, X_175_18, X_175_21_t, X_175_21_f, X_175_21, X_175_24, X_175_25, X_175_26, X_175_27, X_175_28, X_175_31, X_175_32, X_175_33, X_175_34_t, X_175_34_f, X_175_34, X_175_37, X_175_38, X_175_39, X_175_40, X_175_44, X_175_46_t, X_175_46_f, X_175_46, X_175_49, X_175_50, X_175_54, X_175_55, X_175_56, X_175_58, X_175_59, X_175_60_t, X_175_60_f, X_175_60, X_175_63, X_175_64, X_175_66, X_175_68, X_175_71_t, X_175_71_f, X_175_71, X_175_74, X_175_75, X_175_76, X_175_79_t, X_175_79_f, X_175_79, X_175_82, X_175_83, X_175_84, X_175_86, X_175_88, X_175_91, X_175_92, X_175_95, X_175_98, X_175_101, X_175_104, X_175_106, S3_isRow_t, cL2, if_pos hm, pushR_some, pushR_none, fixp_i]
    exact q1 Q
