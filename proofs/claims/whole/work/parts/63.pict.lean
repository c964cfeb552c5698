/-! 63: pictures, moves by a code -/
def pcOk (h : AH) (r : Nat) : Bool := allF (fun k => decide (-1 ≤ h 67 (40 * r + k) ∧ h 67 (40 * r + k) ≤ 9)) 14 0
theorem S_pcr_m {d r : Nat} {h : AH} {Q : Option AV → AG → AH → Prop} (hd : 3 ≤ d) (hr : r < 6) (R : RowR h r) (h1 : h 68 r < 0) : call d 91 [.inr (.inr (some 0)), .inr (.inr (some (22 + 2 * r)))] G1 h Q = Q (some (.inl (-3))) G1 (fnd h 1) := by
  obtain ⟨d, rfl, hd2⟩ := pos_of hd
  have g0 := g1_0
  have hR := rows_r hr
  have hw := hR.2
  have hs := rw_s hw
  obtain ⟨R1, R2, R3, R4, R5⟩ := R
  rw [C_91]
  simp (disch := omega) only [X_91_0, X_91_1, X_91_4_t, X_91_4_f, X_91_4, X_91_7, X_91_8, X_91_9, X_91_12, X_91_13, X_91_14, X_91_17, X_91_19_t, X_91_19_f, X_91_19, X_91_22, X_91_23, X_91_24, X_91_27, X_91_28, X_91_29, X_91_30, X_91_32, X_91_35_t, X_91_35_f, X_91_35, X_91_38, X_91_39, X_91_42, X_91_43, X_91_44, X_91_47, S_isMissing_t, S_found, pushR_some]
theorem S_pcr_s {d r : Nat} {h : AH} {Q : Option AV → AG → AH → Prop} (hd : 3 ≤ d) (hr : r < 6) (R : RowR h r) (h1 : 0 ≤ h 68 r) (h2 : ¬ h 68 r = 14) : call d 91 [.inr (.inr (some 0)), .inr (.inr (some (22 + 2 * r)))] G1 h Q = Q (some (.inl (-3))) G1 (fnd h 5) := by
  obtain ⟨d, rfl, hd2⟩ := pos_of hd
  have g0 := g1_0
  have hR := rows_r hr
  have hw := hR.2
  have hs := rw_s hw
  obtain ⟨R1, R2, R3, R4, R5⟩ := R
  rw [C_91]
  simp (disch := omega) only [X_91_0, X_91_1, X_91_4_t, X_91_4_f, X_91_4, X_91_7, X_91_8, X_91_9, X_91_12, X_91_13, X_91_14, X_91_17, X_91_19_t, X_91_19_f, X_91_19, X_91_22, X_91_23, X_91_24, X_91_27, X_91_28, X_91_29, X_91_30, X_91_32, X_91_35_t, X_91_35_f, X_91_35, X_91_38, X_91_39, X_91_42, X_91_43, X_91_44, X_91_47, S_isMissing_f, S_found, pushR_some]
theorem S_pcr_a {d r : Nat} {h : AH} {Q : Option AV → AG → AH → Prop} (hd : 3 ≤ d) (hr : r < 6) (R : RowR h r) (h2 : h 68 r = 14) : call d 91 [.inr (.inr (some 0)), .inr (.inr (some (22 + 2 * r)))] G1 h Q = if pcOk h r = true then Q (some (.inl 0)) G1 h else Q (some (.inl (-3))) G1 (fnd h 3) := by
  obtain ⟨d, rfl, hd2⟩ := pos_of hd
  have g0 := g1_0
  have hR := rows_r hr
  have hw := hR.2
  have hs := rw_s hw
  have hL := rwL_r hr
  obtain ⟨R1, R2, R3, R4, R5⟩ := R
  have e : allF (fun k => decide (-1 ≤ h (22 + 2 * r + 1) k ∧ h (22 + 2 * r + 1) k ≤ 9)) (h (22 + 2 * r) 2).toNat 0 = pcOk h r := by
    unfold pcOk
    rw [R1, h2]
    exact allF_congr (fun c c1 c2 => by rw [q23, (R5 c (by simp at c2; omega)).1])
  have cA : ∀ Q, call d 8 [.inr (.inr (some (22 + 2 * r))), .inl (-1), .inl 9] G1 h Q = if pcOk h r = true then Q (some (.inl 1)) G1 h else Q (some (.inl 0)) G1 h := fun Q => by
    rw [S_allWithin (by omega) hw (by omega) (fun k hk => by rw [q23, (R5 k (by omega)).1]; exact (R5 k (by omega)).2) (by omega), e]
  rw [C_91]
  by_cases z : pcOk h r = true
  · rw [if_pos z]
    simp (disch := omega) only [X_91_0, X_91_1, X_91_4_t, X_91_4_f, X_91_4, X_91_7, X_91_8, X_91_9, X_91_12, X_91_13, X_91_14, X_91_17, X_91_19_t, X_91_19_f, X_91_19, X_91_22, X_91_23, X_91_24, X_91_27, X_91_28, X_91_29, X_91_30, X_91_32, X_91_35_t, X_91_35_f, X_91_35, X_91_38, X_91_39, X_91_42, X_91_43, X_91_44, X_91_47, S_isMissing_f, cA, if_pos z, pushR_some]
  · rw [if_neg z]
    simp (disch := omega) only [X_91_0, X_91_1, X_91_4_t, X_91_4_f, X_91_4, X_91_7, X_91_8, X_91_9, X_91_12, X_91_13, X_91_14, X_91_17, X_91_19_t, X_91_19_f, X_91_19, X_91_22, X_91_23, X_91_24, X_91_27, X_91_28, X_91_29, X_91_30, X_91_32, X_91_35_t, X_91_35_f, X_91_35, X_91_38, X_91_39, X_91_42, X_91_43, X_91_44, X_91_47, S_isMissing_f, cA, if_neg z, S_found, pushR_some]
theorem S3_lp_m {d r : Nat} {h : AH} {Q : Option AV → AG → AH → Prop} (hd : 3 ≤ d) (hr : r < 6) (hb : -1 ≤ h 68 r ∧ h 68 r ≤ 40) (h1 : h 68 r < 0) : call d 173 [.inr (.inr (some 63)), .inl (r : Int)] G1 h Q = Q (some (.inl (-3))) G1 (fn3 h 1) := by
  obtain ⟨d, rfl, hd2⟩ := pos_of hd
  have g0 := g1_63
  have g68 := g1_68
  rw [C_173]
  simp (disch := omega) only [X_173_0, X_173_1, X_173_4, X_173_5, X_173_6_t, X_173_6_f, X_173_6, X_173_9, X_173_10, X_173_11, X_173_14, X_173_15, X_173_16, X_173_19, X_173_20, X_173_21, X_173_23_t, X_173_23_f, X_173_23, X_173_26, X_173_27, X_173_28, X_173_31, X_173_32, X_173_33, X_173_35, X_173_37_t, X_173_37_f, X_173_37, X_173_40, X_173_41, X_173_44, X_173_46, X_173_47, X_173_48, X_173_49, X_173_50, X_173_51, X_173_52, X_173_55, X_173_58, X_173_61_t, X_173_61_f, X_173_61, X_173_64, X_173_65, X_173_66, X_173_69, X_173_70, X_173_73, X_173_76, X_173_77, r1_63_5, Int.toNat_natCast, S3_finds, pushR_some]
theorem S3_lp_s {d r : Nat} {h : AH} {Q : Option AV → AG → AH → Prop} (hd : 3 ≤ d) (hr : r < 6) (hb : -1 ≤ h 68 r ∧ h 68 r ≤ 40) (h1 : 0 ≤ h 68 r) (h2 : ¬ h 68 r = 14) : call d 173 [.inr (.inr (some 63)), .inl (r : Int)] G1 h Q = Q (some (.inl (-3))) G1 (fn3 h 5) := by
  obtain ⟨d, rfl, hd2⟩ := pos_of hd
  have g0 := g1_63
  have g68 := g1_68
  rw [C_173]
  simp (disch := omega) only [X_173_0, X_173_1, X_173_4, X_173_5, X_173_6_t, X_173_6_f, X_173_6, X_173_9, X_173_10, X_173_11, X_173_14, X_173_15, X_173_16, X_173_19, X_173_20, X_173_21, X_173_23_t, X_173_23_f, X_173_23, X_173_26, X_173_27, X_173_28, X_173_31, X_173_32, X_173_33, X_173_35, X_173_37_t, X_173_37_f, X_173_37, X_173_40, X_173_41, X_173_44, X_173_46, X_173_47, X_173_48, X_173_49, X_173_50, X_173_51, X_173_52, X_173_55, X_173_58, X_173_61_t, X_173_61_f, X_173_61, X_173_64, X_173_65, X_173_66, X_173_69, X_173_70, X_173_73, X_173_76, X_173_77, r1_63_5, Int.toNat_natCast, S3_finds, pushR_some]
theorem S3_lp_a {d r : Nat} {h : AH} {Q : Option AV → AG → AH → Prop} (hd : 3 ≤ d) (hr : r < 6) (h2 : h 68 r = 14) (R5 : ∀ k : Nat, (k : Int) < h 68 r → -2147483648 ≤ h 67 (40 * r + k) ∧ h 67 (40 * r + k) < 2147483648) : call d 173 [.inr (.inr (some 63)), .inl (r : Int)] G1 h Q = if pcOk h r = true then Q (some (.inl 1)) G1 h else Q (some (.inl (-3))) G1 (fn3 h 3) := by
  obtain ⟨d, rfl, hd2⟩ := pos_of hd
  have g0 := g1_63
  have g68 := g1_68
  have g67 := g1_67
  have L : ∀ (m i : Nat), i + m = 14 → wp d 173 34 [some (.inr (.inr (some 63))), some (.inl (r : Int)), some (.inl (i : Int))] [] G1 h Q = if allF (fun k => decide (-1 ≤ h 67 (40 * r + k) ∧ h 67 (40 * r + k) ≤ 9)) m i = true then Q (some (.inl 1)) G1 h else Q (some (.inl (-3))) G1 (fn3 h 3) := by
    intro m
    induction m with
    | zero =>
      intro i hi
      obtain rfl : i = 14 := by omega
      simp (disch := omega) only [X_173_34, X_173_0, X_173_1, X_173_4, X_173_5, X_173_6_t, X_173_6_f, X_173_6, X_173_9, X_173_10, X_173_11, X_173_14, X_173_15, X_173_16, X_173_19, X_173_20, X_173_21, X_173_23_t, X_173_23_f, X_173_23, X_173_26, X_173_27, X_173_28, X_173_31, X_173_32, X_173_33, X_173_35, X_173_37_t, X_173_37_f, X_173_37, X_173_40, X_173_41, X_173_44, X_173_46, X_173_47, X_173_48, X_173_49, X_173_50, X_173_51, X_173_52, X_173_55, X_173_58, X_173_61_t, X_173_61_f, X_173_61, X_173_64, X_173_65, X_173_66, X_173_69, X_173_70, X_173_73, X_173_76, X_173_77, r1_63_5, Int.toNat_natCast, allF, if_true]
    | succ m ih =>
      intro i hi2
      have hbi := R5 i (by omega)
      have ih2 := ih (i + 1) (by omega)
      rw [X_173_34]
      by_cases e2 : -1 ≤ h 67 (40 * r + i) ∧ h 67 (40 * r + i) ≤ 9
      · have e3 : allF (fun k => decide (-1 ≤ h 67 (40 * r + k) ∧ h 67 (40 * r + k) ≤ 9)) (m + 1) i = allF (fun k => decide (-1 ≤ h 67 (40 * r + k) ∧ h 67 (40 * r + k) ≤ 9)) m (i + 1) := by
          simp only [allF, e2, and_self, decide_true, Bool.true_and]
        rw [e3, ← ih2]
        simp (disch := omega) only [X_173_0, X_173_1, X_173_4, X_173_5, X_173_6_t, X_173_6_f, X_173_6, X_173_9, X_173_10, X_173_11, X_173_14, X_173_15, X_173_16, X_173_19, X_173_20, X_173_21, X_173_23_t, X_173_23_f, X_173_23, X_173_26, X_173_27, X_173_28, X_173_31, X_173_32, X_173_33, X_173_35, X_173_37_t, X_173_37_f, X_173_37, X_173_40, X_173_41, X_173_44, X_173_46, X_173_47, X_173_48, X_173_49, X_173_50, X_173_51, X_173_52, X_173_55, X_173_58, X_173_61_t, X_173_61_f, X_173_61, X_173_64, X_173_65, X_173_66, X_173_69, X_173_70, X_173_73, X_173_76, X_173_77, r1_63_4, r1_63_5, tn40, Int.toNat_natCast, S3_in_t, pushR_some, fixp_i, natS]
      · have e3 : allF (fun k => decide (-1 ≤ h 67 (40 * r + k) ∧ h 67 (40 * r + k) ≤ 9)) (m + 1) i = false := by
          simp only [allF, e2, decide_false, Bool.false_and]
        rw [e3, if_neg (by decide)]
        simp (disch := omega) only [X_173_0, X_173_1, X_173_4, X_173_5, X_173_6_t, X_173_6_f, X_173_6, X_173_9, X_173_10, X_173_11, X_173_14, X_173_15, X_173_16, X_173_19, X_173_20, X_173_21, X_173_23_t, X_173_23_f, X_173_23, X_173_26, X_173_27, X_173_28, X_173_31, X_173_32, X_173_33, X_173_35, X_173_37_t, X_173_37_f, X_173_37, X_173_40, X_173_41, X_173_44, X_173_46, X_173_47, X_173_48, X_173_49, X_173_50, X_173_51, X_173_52, X_173_55, X_173_58, X_173_61_t, X_173_61_f, X_173_61, X_173_64, X_173_65, X_173_66, X_173_69, X_173_70, X_173_73, X_173_76, X_173_77, r1_63_4, r1_63_5, tn40, Int.toNat_natCast, S3_in_f, S3_finds, pushR_some, fixp_i, natS]
  rw [C_173]
  simp (disch := omega) only [X_173_0, X_173_1, X_173_4, X_173_5, X_173_6_t, X_173_6_f, X_173_6, X_173_9, X_173_10, X_173_11, X_173_14, X_173_15, X_173_16, X_173_19, X_173_20, X_173_21, X_173_23_t, X_173_23_f, X_173_23, X_173_26, X_173_27, X_173_28, X_173_31, X_173_32, X_173_33, X_173_35, X_173_37_t, X_173_37_f, X_173_37, X_173_40, X_173_41, X_173_44, X_173_46, X_173_47, X_173_48, X_173_49, X_173_50, X_173_51, X_173_52, X_173_55, X_173_58, X_173_61_t, X_173_61_f, X_173_61, X_173_64, X_173_65, X_173_66, X_173_69, X_173_70, X_173_73, X_173_76, X_173_77, r1_63_5, Int.toNat_natCast, pushR_some, fixp_i]
  exact L 14 0 (by omega)
theorem pcOk_iff {h : AH} {r : Nat} (hm : pcOk h r = true) : ∀ k, k < 14 → -1 ≤ h 67 (40 * r + k) ∧ h 67 (40 * r + k) ≤ 9 := by
  unfold pcOk at hm
  rw [allF_iff] at hm
  intro k hk
  have q := hm k (by omega) (by omega)
  simp only [decide_eq_true_eq] at q
  omega
theorem S_want {d r : Nat} {h : AH} {Q : Option AV → AG → AH → Prop} (hd : 2 ≤ d) (hr : r < 6) : call d 107 [.inr (.inr (some 0)), .inr (.inr (some (22 + 2 * r)))] G1 h Q = Q none G1 (setR h 19 (mixR 14 (h (23 + 2 * r)) (h 19))) := by
  obtain ⟨d, rfl, hd2⟩ := pos_of hd
  have g0 := g1_0
  have g19 := g1_19
  have hR := rows_r hr
  have hw := hR.2
  have hs := rw_s hw
  have hL := rwL_r hr
  have L : ∀ (m i : Nat), i + m = 14 → wp d 107 2 [some (.inr (.inr (some 0))), some (.inr (.inr (some (22 + 2 * r)))), some (.inl (i : Int))] [] G1 (setR h 19 (mixR i (h (23 + 2 * r)) (h 19))) Q = Q none G1 (setR h 19 (mixR 14 (h (23 + 2 * r)) (h 19))) := by
    intro m
    induction m with
    | zero =>
      intro i hi
      obtain rfl : i = 14 := by omega
      simp (disch := omega) only [X_107_2, X_107_0, X_107_1, X_107_3, X_107_5_t, X_107_5_f, X_107_5, X_107_8, X_107_9, X_107_12, X_107_13, X_107_14, X_107_15, X_107_18, X_107_19, X_107_22, X_107_25]
    | succ m ih =>
      intro i hi
      have e1 : setR h 19 (mixR i (h (23 + 2 * r)) (h 19)) (22 + 2 * r + 1) i = h (23 + 2 * r) i := by rw [q23, setR_n (by omega)]
      rw [← ih (i + 1) (by omega), ← mix_put (f := h (23 + 2 * r))]
      have e2 : put (setR h 19 (mixR i (h (23 + 2 * r)) (h 19))) 19 i (h (23 + 2 * r) i) = setR h 19 (putR (mixR i (h (23 + 2 * r)) (h 19)) i (h (23 + 2 * r) i)) := by rw [put_set, setR_s, setR_2]
      rw [← e2]
      generalize setR h 19 (mixR i (h (23 + 2 * r)) (h 19)) = h1 at e1 ⊢
      conv => lhs; rw [X_107_2]
      conv => lhs; simp (disch := omega) only [X_107_0, X_107_1, X_107_3, X_107_5_t, X_107_5_f, X_107_5, X_107_8, X_107_9, X_107_12, X_107_13, X_107_14, X_107_15, X_107_18, X_107_19, X_107_22, X_107_25, r1_0_6, S_get, Int.toNat_natCast, e1, fixp_r, fixp_i, natS, pushR_some]
  rw [C_107]
  simp (disch := omega) only [X_107_0, X_107_1, X_107_3, X_107_5_t, X_107_5_f, X_107_5, X_107_8, X_107_9, X_107_12, X_107_13, X_107_14, X_107_15, X_107_18, X_107_19, X_107_22, X_107_25, fixp_r, fixp_i]
  have q := L 14 0 (by omega)
  rw [mix_0, setR_e] at q
  exact q
/-- the k-th figure by four of a code -/
def dg (code k : Nat) : Int := ((code / 4 ^ k % 4 : Nat) : Int)
theorem dg_b {code k : Nat} : 0 ≤ dg code k ∧ dg code k < 4 := by unfold dg; omega
theorem dg_bits0 : ∀ k : Nat, k < 5 → ∀ c : Nat, c < 1024 → bAnd (bShr (c : Int) (2 * (k : Int))) 3 = ((c / 4 ^ k % 4 : Nat) : Int) := by decide +kernel
theorem dg_bits {k c : Nat} (h : k < 5 ∧ c < 1024) : bAnd (bShr (c : Int) (2 * (k : Int))) 3 = dg c k := dg_bits0 k h.1 c h.2
def gb (code : Nat) : Nat → TF → Bool
  | 0, _ => true
  | k + 1, f => if barM f (dg code k) then false else gb code k (mvF f (dg code k))
def gt (code : Nat) : Nat → TF → TF
  | 0, f => f
  | k + 1, f => if barM f (dg code k) then f else gt code k (mvF f (dg code k))
theorem gt_ty {code : Nat} : ∀ {k : Nat} {f : TF} {N : Int}, tyOk f N → tyOk (gt code k f) (N + (k : Int))
  | 0, f, N, hf => by simpa [gt] using hf
  | k + 1, f, N, hf => by
    unfold gt
    split
    · obtain ⟨a1, a2, a3, a4, a5, a6, a7⟩ := hf
      exact ⟨a1, a2, a3, a4, a5, a6, by omega⟩
    · have q := gt_ty (code := code) (k := k) (N := N + 1) (mvF_ty (dg_b (code := code) (k := k)) hf)
      rw [show N + ((k + 1 : Nat) : Int) = N + 1 + (k : Int) by omega]
      exact q
theorem gt_hi {code s : Nat} (hs : 98 ≤ s) : ∀ {k : Nat} {f : TF}, lieOk f → gt code k f s = f s
  | 0, _, _ => rfl
  | k + 1, f, hf => by
    unfold gt
    split
    · rfl
    · rw [gt_hi hs (mvF_ok dg_b hf), mvF_hi dg_b hs hf]
theorem L_goesBy {d code : Nat} {nn : Int} {h : AH} (hd : 3 ≤ d) (hc : code < 1024) : ∀ (k : Nat) (x : Int) (f : TF) (N : Int) (l4 : Option AV), k ≤ 5 → x = (k : Int) - 1 → tyOk f N → ∀ Q, wp d 170 8 [some (.inr (.inr (some 63))), some (.inl nn), some (.inl (code : Int)), some (.inl x), l4] [] G1 (setR h 74 f) Q = if gb code k f = true then Q (some (.inl 1)) G1 (setR h 74 (gt code k f)) else Q (some (.inl 0)) G1 (setR h 74 (gt code k f)) := by
  have g0 := g1_63
  intro k
  induction k with
  | zero =>
    intro x f N l4 hk hx hf Q
    obtain rfl : x = -1 := by omega
    simp (disch := omega) only [X_170_8, X_170_0, X_170_1, X_170_4, X_170_5, X_170_6, X_170_7, X_170_9_t, X_170_9_f, X_170_9, X_170_12, X_170_13, X_170_14, X_170_15, X_170_16, X_170_17, X_170_18, X_170_19, X_170_21, X_170_22, X_170_25, X_170_27, X_170_30_t, X_170_30_f, X_170_30, X_170_33, X_170_34, X_170_35, X_170_36, X_170_39, X_170_41, X_170_44, X_170_47, X_170_50, X_170_51, gb, gt, if_true]
  | succ k ih =>
    intro x f N l4 hk hx hf Q
    obtain rfl : x = (k : Int) := by omega
    have gi := dg_b (code := code) (k := k)
    have eb := dg_bits (k := k) (c := code) (by omega)
    have cB : ∀ Q, call d 146 [.inr (.inr (some 74)), .inl (dg code k)] G1 (setR h 74 f) Q = if barM f (dg code k) then Q (some (.inl 1)) G1 (setR h 74 f) else Q (some (.inl 0)) G1 (setR h 74 f) := fun Q => by
      rw [S3_isBarred (by omega) (Or.inr rfl) gi (by rw [setR_s]; exact hf.1) (by rw [setR_s]; exact hf.2.2.1), setR_s]
    by_cases hb : barM f (dg code k)
    · have e1 : gb code (k + 1) f = false := by unfold gb; rw [if_pos hb]
      have e2 : gt code (k + 1) f = f := by unfold gt; rw [if_pos hb]
      rw [e1, e2, if_neg (by decide)]
      conv => lhs; rw [X_170_8]
      conv => lhs; simp (disch := omega) only [X_170_0, X_170_1, X_170_4, X_170_5, X_170_6, X_170_7, X_170_9_t, X_170_9_f, X_170_9, X_170_12, X_170_13, X_170_14, X_170_15, X_170_16, X_170_17, X_170_18, X_170_19, X_170_21, X_170_22, X_170_25, X_170_27, X_170_30_t, X_170_30_f, X_170_30, X_170_33, X_170_34, X_170_35, X_170_36, X_170_39, X_170_41, X_170_44, X_170_47, X_170_50, X_170_51, r1_63_15, eb, cB, if_pos hb, pushR_some, fixp_i]
    · have e1 : gb code (k + 1) f = gb code k (mvF f (dg code k)) := by conv => lhs; unfold gb; rw [if_neg hb]
      have e2 : gt code (k + 1) f = gt code k (mvF f (dg code k)) := by conv => lhs; unfold gt; rw [if_neg hb]
      have cG : ∀ Q, call d 147 [.inr (.inr (some 74)), .inl (dg code k)] G1 (setR h 74 f) Q = Q none G1 (setR h 74 (mvF f (dg code k))) := fun Q => by
        rw [S3_goMove (by omega) (Or.inr rfl) gi (by rw [setR_s]; exact hf.1), setR_s, setR_2]
      rw [e1, e2]
      refine Eq.trans ?_ (ih ((k : Int) + -1) (mvF f (dg code k)) (N + 1) (some (.inl (dg code k))) (by omega) (by omega) (mvF_ty gi hf) Q)
      conv => lhs; rw [X_170_8]
      conv => lhs; simp (disch := omega) only [X_170_0, X_170_1, X_170_4, X_170_5, X_170_6, X_170_7, X_170_9_t, X_170_9_f, X_170_9, X_170_12, X_170_13, X_170_14, X_170_15, X_170_16, X_170_17, X_170_18, X_170_19, X_170_21, X_170_22, X_170_25, X_170_27, X_170_30_t, X_170_30_f, X_170_30, X_170_33, X_170_34, X_170_35, X_170_36, X_170_39, X_170_41, X_170_44, X_170_47, X_170_50, X_170_51, r1_63_15, eb, cB, if_neg hb, cG, pushR_some, pushR_none, fixp_i]
theorem S3_goesBy {d n code : Nat} {N : Int} {h : AH} {Q : Option AV → AG → AH → Prop} (hd : 4 ≤ d) (hn : n ≤ 5) (hc : code < 1024) (hz : ∀ s, 98 ≤ s → h 74 s = h 64 s) (hf : tyOk (h 64) N) : call d 170 [.inr (.inr (some 63)), .inl (n : Int), .inl (code : Int)] G1 h Q = if gb code n (h 64) = true then Q (some (.inl 1)) G1 (setR h 74 (gt code n (h 64))) else Q (some (.inl 0)) G1 (setR h 74 (gt code n (h 64))) := by
  obtain ⟨d, rfl, hd2⟩ := pos_of hd
  have g0 := g1_63
  have cH : ∀ Q, call d 164 [.inr (.inr (some 63))] G1 h Q = Q none G1 (setR h 74 (h 64)) := fun Q => S3_layHand (by omega) hz
  rw [C_170]
  simp (disch := omega) only [X_170_0, X_170_1, X_170_4, X_170_5, X_170_6, X_170_7, X_170_9_t, X_170_9_f, X_170_9, X_170_12, X_170_13, X_170_14, X_170_15, X_170_16, X_170_17, X_170_18, X_170_19, X_170_21, X_170_22, X_170_25, X_170_27, X_170_30_t, X_170_30_f, X_170_30, X_170_33, X_170_34, X_170_35, X_170_36, X_170_39, X_170_41, X_170_44, X_170_47, X_170_50, X_170_51, cH, pushR_none, fixp_i]
  exact L_goesBy hd2 hc n _ (h 64) N _ hn rfl hf Q
