/-! 30: loops over cells; toys copied -/
theorem natS {i : Nat} : (i : Int) + 1 = ((i + 1 : Nat) : Int) := rfl
def allF (P : Nat → Bool) : Nat → Nat → Bool
  | 0, _ => true
  | n + 1, i => P i && allF P n (i + 1)
theorem allF_iff {P : Nat → Bool} : ∀ (n i : Nat), allF P n i = true ↔ ∀ c, i ≤ c → c < i + n → P c = true
  | 0, i => by simp only [allF, true_iff]; intro c h1 h2; omega
  | n + 1, i => by
    simp only [allF, Bool.and_eq_true, allF_iff n (i + 1)]
    constructor
    · rintro ⟨h0, h1⟩ c c1 c2
      rcases Nat.eq_or_lt_of_le c1 with rfl | z
      · exact h0
      · exact h1 c z (by omega)
    · exact fun h => ⟨h i (Nat.le_refl _) (by omega), fun c c1 c2 => h c (by omega) (by omega)⟩
theorem allF_congr {P R : Nat → Bool} {n i : Nat} (h : ∀ c, i ≤ c → c < i + n → P c = R c) : allF P n i = allF R n i := by
  apply Bool.eq_iff_iff.mpr
  rw [allF_iff, allF_iff]
  exact ⟨fun q c c1 c2 => by rw [← h c c1 c2]; exact q c c1 c2, fun q c c1 c2 => by rw [h c c1 c2]; exact q c c1 c2⟩
def sumF (g : Nat → Int) : Nat → Nat → Int → Int
  | 0, _, a => a
  | n + 1, i, a => sumF g n (i + 1) (a + g i)
theorem sumF_congr {g k : Nat → Int} : ∀ {n i : Nat} {a : Int}, (∀ c, i ≤ c → c < i + n → g c = k c) → sumF g n i a = sumF k n i a
  | 0, _, _, _ => rfl
  | n + 1, i, a, h => by
    simp only [sumF]
    rw [h i (Nat.le_refl _) (by omega)]
    exact sumF_congr (fun c c1 c2 => h c (by omega) (by omega))
/-- the hand is laid -/
theorem L_layHand {d : Nat} {h : AH} {Q : Option AV → AG → AH → Prop} : ∀ (n i : Nat), i + n = 98 → wp d 164 2 [some (.inr (.inr (some 63))), some (.inl (i : Int))] [] G1 (setR h 74 (fun s => if s < i then h 64 s else h 74 s)) Q = Q none G1 (setR h 74 (fun s => if s < 98 then h 64 s else h 74 s)) := by
  intro n
  induction n with
  | zero =>
    intro i hi
    obtain rfl : i = 98 := by omega
    simp (disch := omega) only [X_164_2, X_164_0, X_164_1, X_164_3, X_164_5_t, X_164_5_f, X_164_5, X_164_8, X_164_9, X_164_12, X_164_13, X_164_14, X_164_17, X_164_18, X_164_19, X_164_20, X_164_23, X_164_26]
  | succ n ih =>
    intro i hi
    have g0 := g1_63
    have g1 := g1_74
    have g2 := g1_64
    rw [X_164_2]
    simp (disch := omega) only [X_164_0, X_164_1, X_164_3, X_164_5_t, X_164_5_f, X_164_5, X_164_8, X_164_9, X_164_12, X_164_13, X_164_14, X_164_17, X_164_18, X_164_19, X_164_20, X_164_23, X_164_26, r1_63_15, r1_63_0, put_set, setR_s, setR_n, setR_2, Int.toNat_natCast, fixp_r, natS]
    rw [← ih (i + 1) (by omega)]
    congr 2
    funext s
    unfold putR
    by_cases e : s = i
    · subst e
      rw [if_pos rfl, if_pos (by omega)]
    · rw [if_neg e]
      dsimp only
      by_cases e2 : s < i
      · rw [if_pos e2, if_pos (by omega)]
      · rw [if_neg e2, if_neg (by omega)]
theorem S3_layHand {d : Nat} {h : AH} {Q : Option AV → AG → AH → Prop} (hd : 1 ≤ d) (hz : ∀ s, 98 ≤ s → h 74 s = h 64 s) : call d 164 [.inr (.inr (some 63))] G1 h Q = Q none G1 (setR h 74 (h 64)) := by
  obtain ⟨d, rfl, -⟩ := pos_of hd
  have e0 : setR h 74 (fun s => if s < 0 then h 64 s else h 74 s) = h := by
    have : (fun s => if s < 0 then h 64 s else h 74 s) = h 74 := by funext s; rw [if_neg (by omega)]
    rw [this, setR_e]
  have e1 : (fun s => if s < 98 then h 64 s else h 74 s) = h 64 := by
    funext s
    by_cases z : s < 98
    · rw [if_pos z]
    · rw [if_neg z, hz s (by omega)]
  have q := L_layHand (d := d) (h := h) (Q := Q) 98 0 rfl
  rw [e0, e1] at q
  rw [C_164]
  simp (disch := omega) only [X_164_0, X_164_1, X_164_3, X_164_5_t, X_164_5_f, X_164_5, X_164_8, X_164_9, X_164_12, X_164_13, X_164_14, X_164_17, X_164_18, X_164_19, X_164_20, X_164_23, X_164_26, fixp_r]
  exact q
/-- a picture shows -/
def picB (f : TF) (w : TF) : Bool := allF (fun c => decide (w c = -1 ∨ w c = shF f c)) 14 0
theorem S_showsAs {d t : Nat} {N : Int} {h : AH} {f : TF} {Q : Option AV → AG → AH → Prop} (hd : 4 ≤ d) (ht : isToy t) (hT : TR h t f) (hf : tyOk f N) (hN : N ≤ 900000) (hw : ∀ c, c < 14 → -1 ≤ h 19 c ∧ h 19 c ≤ 9) : call d 20 [.inr (.inr (some t)), .inr (.inr (some 19))] G1 h Q = if picB f (h 19) = true then Q (some (.inl 1)) G1 h else Q (some (.inl 0)) G1 h := by
  obtain ⟨d, rfl, hd2⟩ := pos_of hd
  have hs := toy_s ht
  have hr := toy_r ht
  have g19 := g1_19
  have L : ∀ (n i : Nat), i + n = 14 → wp d 20 2 [some (.inr (.inr (some t))), some (.inr (.inr (some 19))), some (.inl (i : Int))] [] G1 h Q = if allF (fun c => decide (h 19 c = -1 ∨ h 19 c = shF f c)) n i = true then Q (some (.inl 1)) G1 h else Q (some (.inl 0)) G1 h := by
    intro n
    induction n with
    | zero =>
      intro i hi
      obtain rfl : i = 14 := by omega
      simp (disch := omega) only [X_20_2, X_20_0, X_20_1, X_20_3, X_20_5_t, X_20_5_f, X_20_5, X_20_8, X_20_9, X_20_10, X_20_11_t, X_20_11_f, X_20_11, X_20_14, X_20_15, X_20_16, X_20_17, X_20_18_t, X_20_18_f, X_20_18, X_20_21, X_20_22, X_20_23, X_20_24, X_20_25, X_20_26, X_20_29, X_20_30, X_20_31, X_20_34_t, X_20_34_f, X_20_34, X_20_37, X_20_38, X_20_39, X_20_42, X_20_45, X_20_46, allF, if_true]
    | succ n ih =>
      intro i hi
      have hw1 := hw i (by omega)
      have hsr := shF_rng hf hN (c := i) (by omega)
      have hso : ∀ Q, call d 18 [.inr (.inr (some t)), .inl (h (t + 5) i)] G1 h Q = Q (some (.inl (shF f i))) G1 h := fun Q => S_showAt hd2 ht (by omega) hT hf hN
      rw [X_20_2]
      by_cases e1 : h 19 i = -1
      · simp (disch := omega) only [X_20_0, X_20_1, X_20_3, X_20_5_t, X_20_5_f, X_20_5, X_20_8, X_20_9, X_20_10, X_20_11_t, X_20_11_f, X_20_11, X_20_14, X_20_15, X_20_16, X_20_17, X_20_18_t, X_20_18_f, X_20_18, X_20_21, X_20_22, X_20_23, X_20_24, X_20_25, X_20_26, X_20_29, X_20_30, X_20_31, X_20_34_t, X_20_34_f, X_20_34, X_20_37, X_20_38, X_20_39, X_20_42, X_20_45, X_20_46, Int.toNat_natCast, fixp_r, natS]
        rw [ih (i + 1) (by omega)]
        simp only [allF, e1, true_or, decide_true, Bool.true_and]
      · by_cases e2 : h 19 i = shF f i
        · simp (disch := omega) only [X_20_0, X_20_1, X_20_3, X_20_5_t, X_20_5_f, X_20_5, X_20_8, X_20_9, X_20_10, X_20_11_t, X_20_11_f, X_20_11, X_20_14, X_20_15, X_20_16, X_20_17, X_20_18_t, X_20_18_f, X_20_18, X_20_21, X_20_22, X_20_23, X_20_24, X_20_25, X_20_26, X_20_29, X_20_30, X_20_31, X_20_34_t, X_20_34_f, X_20_34, X_20_37, X_20_38, X_20_39, X_20_42, X_20_45, X_20_46, Int.toNat_natCast, fixp_r, natS, hr, hso, pushR_some]
          rw [ih (i + 1) (by omega)]
          simp only [allF, e2, or_true, decide_true, Bool.true_and]
        · simp (disch := omega) only [X_20_0, X_20_1, X_20_3, X_20_5_t, X_20_5_f, X_20_5, X_20_8, X_20_9, X_20_10, X_20_11_t, X_20_11_f, X_20_11, X_20_14, X_20_15, X_20_16, X_20_17, X_20_18_t, X_20_18_f, X_20_18, X_20_21, X_20_22, X_20_23, X_20_24, X_20_25, X_20_26, X_20_29, X_20_30, X_20_31, X_20_34_t, X_20_34_f, X_20_34, X_20_37, X_20_38, X_20_39, X_20_42, X_20_45, X_20_46, Int.toNat_natCast, fixp_r, natS, hr, hso, pushR_some]
          rw [if_neg]
          simp only [allF, Bool.and_eq_true, decide_eq_true_eq]
          exact fun z => z.1.elim e1 e2
  rw [C_20]
  simp (disch := omega) only [X_20_0, X_20_1, X_20_3, X_20_5_t, X_20_5_f, X_20_5, X_20_8, X_20_9, X_20_10, X_20_11_t, X_20_11_f, X_20_11, X_20_14, X_20_15, X_20_16, X_20_17, X_20_18_t, X_20_18_f, X_20_18, X_20_21, X_20_22, X_20_23, X_20_24, X_20_25, X_20_26, X_20_29, X_20_30, X_20_31, X_20_34_t, X_20_34_f, X_20_34, X_20_37, X_20_38, X_20_39, X_20_42, X_20_45, X_20_46, fixp_r]
  exact L 14 0 rfl
theorem S_liesAs {d t u : Nat} {h : AH} {Q : Option AV → AG → AH → Prop} (hd : 1 ≤ d) (ht : isToy t) (hu : isToy u) (hb : ∀ c, c < 14 → (0 ≤ h (t + 5) c ∧ h (t + 5) c < 14) ∧ (0 ≤ h (u + 5) c ∧ h (u + 5) c < 14)) : call d 21 [.inr (.inr (some t)), .inr (.inr (some u))] G1 h Q = if allF (fun c => decide (h (t + 5) c = h (u + 5) c)) 14 0 = true then Q (some (.inl 1)) G1 h else Q (some (.inl 0)) G1 h := by
  obtain ⟨d, rfl, hd2⟩ := pos_of hd
  have hs := toy_s ht
  have hr := toy_r ht
  have hs2 := toy_s hu
  have hr2 := toy_r hu
  have L : ∀ (n i : Nat), i + n = 14 → wp d 21 2 [some (.inr (.inr (some t))), some (.inr (.inr (some u))), some (.inl (i : Int))] [] G1 h Q = if allF (fun c => decide (h (t + 5) c = h (u + 5) c)) n i = true then Q (some (.inl 1)) G1 h else Q (some (.inl 0)) G1 h := by
    intro n
    induction n with
    | zero =>
      intro i hi
      obtain rfl : i = 14 := by omega
      simp (disch := omega) only [X_21_2, X_21_0, X_21_1, X_21_3, X_21_5_t, X_21_5_f, X_21_5, X_21_8, X_21_9, X_21_12, X_21_13, X_21_14, X_21_15, X_21_18, X_21_19, X_21_20_t, X_21_20_f, X_21_20, X_21_23, X_21_24, X_21_25, X_21_28, X_21_31, X_21_32, allF, if_true]
    | succ n ih =>
      intro i hi
      have hw1 := hb i (by omega)
      rw [X_21_2]
      by_cases e1 : h (t + 5) i = h (u + 5) i
      · simp (disch := omega) only [X_21_0, X_21_1, X_21_3, X_21_5_t, X_21_5_f, X_21_5, X_21_8, X_21_9, X_21_12, X_21_13, X_21_14, X_21_15, X_21_18, X_21_19, X_21_20_t, X_21_20_f, X_21_20, X_21_23, X_21_24, X_21_25, X_21_28, X_21_31, X_21_32, Int.toNat_natCast, fixp_r, natS, hr, hr2]
        rw [ih (i + 1) (by omega)]
        simp only [allF, e1, decide_true, Bool.true_and]
      · simp (disch := omega) only [X_21_0, X_21_1, X_21_3, X_21_5_t, X_21_5_f, X_21_5, X_21_8, X_21_9, X_21_12, X_21_13, X_21_14, X_21_15, X_21_18, X_21_19, X_21_20_t, X_21_20_f, X_21_20, X_21_23, X_21_24, X_21_25, X_21_28, X_21_31, X_21_32, Int.toNat_natCast, fixp_r, natS, hr, hr2]
        rw [if_neg]
        simp only [allF, Bool.and_eq_true, decide_eq_true_eq]
        exact fun z => e1 z.1
  rw [C_21]
  simp (disch := omega) only [X_21_0, X_21_1, X_21_3, X_21_5_t, X_21_5_f, X_21_5, X_21_8, X_21_9, X_21_12, X_21_13, X_21_14, X_21_15, X_21_18, X_21_19, X_21_20_t, X_21_20_f, X_21_20, X_21_23, X_21_24, X_21_25, X_21_28, X_21_31, X_21_32, fixp_r]
  exact L 14 0 rfl
theorem S3_liesAsNow {d : Nat} {h : AH} {Q : Option AV → AG → AH → Prop} (hd : 1 ≤ d) (hb : ∀ c, c < 14 → (0 ≤ h 74 (69 + c) ∧ h 74 (69 + c) < 14) ∧ (0 ≤ h 64 (69 + c) ∧ h 64 (69 + c) < 14)) : call d 168 [.inr (.inr (some 63))] G1 h Q = if allF (fun c => decide (h 74 (69 + c) = h 64 (69 + c))) 14 0 = true then Q (some (.inl 1)) G1 h else Q (some (.inl 0)) G1 h := by
  obtain ⟨d, rfl, hd2⟩ := pos_of hd
  have g0 := g1_63
  have g1 := g1_74
  have g2 := g1_64
  have L0 : ∀ (n i : Nat), i + n = 14 → wp d 168 4 [some (.inr (.inr (some 63))), some (.inl 0), some (.inl (i : Int))] [] G1 h Q = Q (some (.inl 0)) G1 h := by
    intro n
    induction n with
    | zero =>
      intro i hi
      obtain rfl : i = 14 := by omega
      simp (disch := omega) only [X_168_4, X_168_0, X_168_1, X_168_2, X_168_3, X_168_5, X_168_7_t, X_168_7_f, X_168_7, X_168_10, X_168_11_t, X_168_11_f, X_168_11, X_168_14, X_168_15, X_168_18, X_168_20, X_168_21, X_168_22, X_168_23, X_168_24, X_168_27, X_168_29, X_168_30, X_168_31, X_168_32_t, X_168_32_f, X_168_32, X_168_35, X_168_36, X_168_39, X_168_40, X_168_41, X_168_44, X_168_47, X_168_48]
    | succ n ih =>
      intro i hi
      rw [X_168_4]
      simp (disch := omega) only [X_168_0, X_168_1, X_168_2, X_168_3, X_168_5, X_168_7_t, X_168_7_f, X_168_7, X_168_10, X_168_11_t, X_168_11_f, X_168_11, X_168_14, X_168_15, X_168_18, X_168_20, X_168_21, X_168_22, X_168_23, X_168_24, X_168_27, X_168_29, X_168_30, X_168_31, X_168_32_t, X_168_32_f, X_168_32, X_168_35, X_168_36, X_168_39, X_168_40, X_168_41, X_168_44, X_168_47, X_168_48, fixp_r, fixp_i, natS]
      exact ih (i + 1) (by omega)
  have L : ∀ (n i : Nat), i + n = 14 → wp d 168 4 [some (.inr (.inr (some 63))), some (.inl 1), some (.inl (i : Int))] [] G1 h Q = if allF (fun c => decide (h 74 (69 + c) = h 64 (69 + c))) n i = true then Q (some (.inl 1)) G1 h else Q (some (.inl 0)) G1 h := by
    intro n
    induction n with
    | zero =>
      intro i hi
      obtain rfl : i = 14 := by omega
      simp (disch := omega) only [X_168_4, X_168_0, X_168_1, X_168_2, X_168_3, X_168_5, X_168_7_t, X_168_7_f, X_168_7, X_168_10, X_168_11_t, X_168_11_f, X_168_11, X_168_14, X_168_15, X_168_18, X_168_20, X_168_21, X_168_22, X_168_23, X_168_24, X_168_27, X_168_29, X_168_30, X_168_31, X_168_32_t, X_168_32_f, X_168_32, X_168_35, X_168_36, X_168_39, X_168_40, X_168_41, X_168_44, X_168_47, X_168_48, allF, if_true]
    | succ n ih =>
      intro i hi
      have hw1 := hb i (by omega)
      have e0 : ((69 : Int) + (i : Int)).toNat = 69 + i := by omega
      rw [X_168_4]
      by_cases e1 : h 74 (69 + i) = h 64 (69 + i)
      · simp (disch := omega) only [X_168_0, X_168_1, X_168_2, X_168_3, X_168_5, X_168_7_t, X_168_7_f, X_168_7, X_168_10, X_168_11_t, X_168_11_f, X_168_11, X_168_14, X_168_15, X_168_18, X_168_20, X_168_21, X_168_22, X_168_23, X_168_24, X_168_27, X_168_29, X_168_30, X_168_31, X_168_32_t, X_168_32_f, X_168_32, X_168_35, X_168_36, X_168_39, X_168_40, X_168_41, X_168_44, X_168_47, X_168_48, e0, fixp_r, fixp_i, natS, r1_63_15, r1_63_0]
        rw [ih (i + 1) (by omega)]
        simp only [allF, e1, decide_true, Bool.true_and]
      · simp (disch := omega) only [X_168_0, X_168_1, X_168_2, X_168_3, X_168_5, X_168_7_t, X_168_7_f, X_168_7, X_168_10, X_168_11_t, X_168_11_f, X_168_11, X_168_14, X_168_15, X_168_18, X_168_20, X_168_21, X_168_22, X_168_23, X_168_24, X_168_27, X_168_29, X_168_30, X_168_31, X_168_32_t, X_168_32_f, X_168_32, X_168_35, X_168_36, X_168_39, X_168_40, X_168_41, X_168_44, X_168_47, X_168_48, e0, fixp_r, fixp_i, natS, r1_63_15, r1_63_0]
        rw [L0 n (i + 1) (by omega), if_neg]
        simp only [allF, Bool.and_eq_true, decide_eq_true_eq]
        exact fun z => e1 z.1
  rw [C_168]
  simp (disch := omega) only [X_168_0, X_168_1, X_168_2, X_168_3, X_168_5, X_168_7_t, X_168_7_f, X_168_7, X_168_10, X_168_11_t, X_168_11_f, X_168_11, X_168_14, X_168_15, X_168_18, X_168_20, X_168_21, X_168_22, X_168_23, X_168_24, X_168_27, X_168_29, X_168_30, X_168_31, X_168_32_t, X_168_32_f, X_168_32, X_168_35, X_168_36, X_168_39, X_168_40, X_168_41, X_168_44, X_168_47, X_168_48, fixp_r, fixp_i, fixp_n]
  exact L 14 0 rfl
theorem S3_isPicture {d r : Nat} {N : Int} {h : AH} {Q : Option AV → AG → AH → Prop} (hd : 4 ≤ d) (hr : r < 6) (hf : tyOk (h 74) N) (hN : N ≤ 900000) (hw : ∀ c, c < 14 → -1 ≤ h 67 (40 * r + c) ∧ h 67 (40 * r + c) ≤ 9) : call d 174 [.inr (.inr (some 63)), .inl (r : Int)] G1 h Q = if picB (h 74) (fun c => h 67 (40 * r + c)) = true then Q (some (.inl 1)) G1 h else Q (some (.inl 0)) G1 h := by
  obtain ⟨d, rfl, hd2⟩ := pos_of hd
  have g0 := g1_63
  have g1 := g1_74
  have g2 := g1_67
  have L0 : ∀ (n i : Nat) (v : Option AV), i + n = 14 → wp d 174 4 [some (.inr (.inr (some 63))), some (.inl (r : Int)), some (.inl 0), some (.inl (i : Int)), v] [] G1 h Q = Q (some (.inl 0)) G1 h := by
    intro n
    induction n with
    | zero =>
      intro i v hi
      obtain rfl : i = 14 := by omega
      simp (disch := omega) only [X_174_4, X_174_0, X_174_1, X_174_2, X_174_3, X_174_5, X_174_7_t, X_174_7_f, X_174_7, X_174_10, X_174_11, X_174_14, X_174_16, X_174_17, X_174_18, X_174_19, X_174_20, X_174_21, X_174_23, X_174_24_t, X_174_24_f, X_174_24, X_174_27, X_174_29_t, X_174_29_f, X_174_29, X_174_32, X_174_34, X_174_35, X_174_38, X_174_39, X_174_42_t, X_174_42_f, X_174_42, X_174_45, X_174_46, X_174_49, X_174_50, X_174_51, X_174_54, X_174_57, X_174_58]
    | succ n ih =>
      intro i v hi
      rw [X_174_4]
      simp (disch := omega) only [X_174_0, X_174_1, X_174_2, X_174_3, X_174_5, X_174_7_t, X_174_7_f, X_174_7, X_174_10, X_174_11, X_174_14, X_174_16, X_174_17, X_174_18, X_174_19, X_174_20, X_174_21, X_174_23, X_174_24_t, X_174_24_f, X_174_24, X_174_27, X_174_29_t, X_174_29_f, X_174_29, X_174_32, X_174_34, X_174_35, X_174_38, X_174_39, X_174_42_t, X_174_42_f, X_174_42, X_174_45, X_174_46, X_174_49, X_174_50, X_174_51, X_174_54, X_174_57, X_174_58, fixp_r, fixp_i, natS, r1_63_4]
      exact ih (i + 1) _ (by omega)
  have L : ∀ (n i : Nat) (v : Option AV), i + n = 14 → wp d 174 4 [some (.inr (.inr (some 63))), some (.inl (r : Int)), some (.inl 1), some (.inl (i : Int)), v] [] G1 h Q = if allF (fun c => decide (h 67 (40 * r + c) = -1 ∨ h 67 (40 * r + c) = shF (h 74) c)) n i = true then Q (some (.inl 1)) G1 h else Q (some (.inl 0)) G1 h := by
    intro n
    induction n with
    | zero =>
      intro i v hi
      obtain rfl : i = 14 := by omega
      simp (disch := omega) only [X_174_4, X_174_0, X_174_1, X_174_2, X_174_3, X_174_5, X_174_7_t, X_174_7_f, X_174_7, X_174_10, X_174_11, X_174_14, X_174_16, X_174_17, X_174_18, X_174_19, X_174_20, X_174_21, X_174_23, X_174_24_t, X_174_24_f, X_174_24, X_174_27, X_174_29_t, X_174_29_f, X_174_29, X_174_32, X_174_34, X_174_35, X_174_38, X_174_39, X_174_42_t, X_174_42_f, X_174_42, X_174_45, X_174_46, X_174_49, X_174_50, X_174_51, X_174_54, X_174_57, X_174_58, allF, if_true]
    | succ n ih =>
      intro i v hi
      have hw1 := hw i (by omega)
      have hsr := shF_rng hf hN (c := i) (by omega)
      have e0 : ((40 : Int) * (r : Int) + (i : Int)).toNat = 40 * r + i := by omega
      have hso : ∀ Q, call d 143 [.inr (.inr (some 74)), .inl (i : Int)] G1 h Q = Q (some (.inl (shF (h 74) i))) G1 h := fun Q => S3_showsIn hd2 (Or.inr rfl) (by omega) hf hN
      rw [X_174_4]
      by_cases e1 : h 67 (40 * r + i) = -1
      · simp (disch := omega) only [X_174_0, X_174_1, X_174_2, X_174_3, X_174_5, X_174_7_t, X_174_7_f, X_174_7, X_174_10, X_174_11, X_174_14, X_174_16, X_174_17, X_174_18, X_174_19, X_174_20, X_174_21, X_174_23, X_174_24_t, X_174_24_f, X_174_24, X_174_27, X_174_29_t, X_174_29_f, X_174_29, X_174_32, X_174_34, X_174_35, X_174_38, X_174_39, X_174_42_t, X_174_42_f, X_174_42, X_174_45, X_174_46, X_174_49, X_174_50, X_174_51, X_174_54, X_174_57, X_174_58, e0, fixp_r, fixp_i, natS, r1_63_4, r1_63_15]
        rw [ih (i + 1) _ (by omega)]
        simp only [allF, e1, true_or, decide_true, Bool.true_and]
      · by_cases e2 : h 67 (40 * r + i) = shF (h 74) i
        · simp (disch := omega) only [X_174_0, X_174_1, X_174_2, X_174_3, X_174_5, X_174_7_t, X_174_7_f, X_174_7, X_174_10, X_174_11, X_174_14, X_174_16, X_174_17, X_174_18, X_174_19, X_174_20, X_174_21, X_174_23, X_174_24_t, X_174_24_f, X_174_24, X_174_27, X_174_29_t, X_174_29_f, X_174_29, X_174_32, X_174_34, X_174_35, X_174_38, X_174_39, X_174_42_t, X_174_42_f, X_174_42, X_174_45, X_174_46, X_174_49, X_174_50, X_174_51, X_174_54, X_174_57, X_174_58, e0, fixp_r, fixp_i, natS, r1_63_4, r1_63_15, hso, pushR_some]
          rw [ih (i + 1) _ (by omega)]
          simp only [allF, e2, or_true, decide_true, Bool.true_and]
        · simp (disch := omega) only [X_174_0, X_174_1, X_174_2, X_174_3, X_174_5, X_174_7_t, X_174_7_f, X_174_7, X_174_10, X_174_11, X_174_14, X_174_16, X_174_17, X_174_18, X_174_19, X_174_20, X_174_21, X_174_23, X_174_24_t, X_174_24_f, X_174_24, X_174_27, X_174_29_t, X_174_29_f, X_174_29, X_174_32, X_174_34, X_174_35, X_174_38, X_174_39, X_174_42_t, X_174_42_f, X_174_42, X_174_45, X_174_46, X_174_49, X_174_50, X_174_51, X_174_54, X_174_57, X_174_58, e0, fixp_r, fixp_i, natS, r1_63_4, r1_63_15, hso, pushR_some]
          rw [L0 n (i + 1) _ (by omega), if_neg]
          simp only [allF, Bool.and_eq_true, decide_eq_true_eq]
          exact fun z => z.1.elim e1 e2
  rw [C_174]
  simp (disch := omega) only [X_174_0, X_174_1, X_174_2, X_174_3, X_174_5, X_174_7_t, X_174_7_f, X_174_7, X_174_10, X_174_11, X_174_14, X_174_16, X_174_17, X_174_18, X_174_19, X_174_20, X_174_21, X_174_23, X_174_24_t, X_174_24_f, X_174_24, X_174_27, X_174_29_t, X_174_29_f, X_174_29, X_174_32, X_174_34, X_174_35, X_174_38, X_174_39, X_174_42_t, X_174_42_f, X_174_42, X_174_45, X_174_46, X_174_49, X_174_50, X_174_51, X_174_54, X_174_57, X_174_58, fixp_r, fixp_i, fixp_n]
  exact L 14 0 _ rfl
theorem S3_cellOf {d a c0 : Nat} {h : AH} {Q : Option AV → AG → AH → Prop} (hd : 1 ≤ d) (ha : isA a) (hc : c0 < 14) (hf : lieOk (h a)) : call d 140 [.inr (.inr (some a)), .inl (h a (69 + c0))] G1 h Q = Q (some (.inl (c0 : Int))) G1 h := by
  obtain ⟨d, rfl, hd2⟩ := pos_of hd
  have hs := isA_s ha
  have hb0 := hf.1 c0 hc
  have L : ∀ (n i : Nat), i + n = 14 → wp d 140 4 [some (.inr (.inr (some a))), some (.inl (h a (69 + c0))), some (.inl (if c0 < i then (c0 : Int) else 0)), some (.inl (i : Int))] [] G1 h Q = Q (some (.inl (c0 : Int))) G1 h := by
    intro n
    induction n with
    | zero =>
      intro i hi
      obtain rfl : i = 14 := by omega
      rw [if_pos hc]
      simp (disch := omega) only [X_140_4, X_140_0, X_140_1, X_140_2, X_140_3, X_140_5, X_140_7_t, X_140_7_f, X_140_7, X_140_10, X_140_11, X_140_13, X_140_14, X_140_15, X_140_16, X_140_17_t, X_140_17_f, X_140_17, X_140_20, X_140_21, X_140_24, X_140_25, X_140_26, X_140_29, X_140_32, X_140_33]
    | succ n ih =>
      intro i hi
      have hw1 := hf.1 i (by omega)
      have e0 : ((69 : Int) + (i : Int)).toNat = 69 + i := by omega
      rw [X_140_4]
      by_cases e1 : i = c0
      · subst e1
        simp (disch := omega) only [X_140_0, X_140_1, X_140_2, X_140_3, X_140_5, X_140_7_t, X_140_7_f, X_140_7, X_140_10, X_140_11, X_140_13, X_140_14, X_140_15, X_140_16, X_140_17_t, X_140_17_f, X_140_17, X_140_20, X_140_21, X_140_24, X_140_25, X_140_26, X_140_29, X_140_32, X_140_33, e0, fixp_r, fixp_i, natS]
        have q := ih (i + 1) (by omega)
        rw [if_pos (by omega)] at q
        exact q
      · have e2 : ¬ h a (69 + i) = h a (69 + c0) := fun z => e1 (hf.2 i (by omega) c0 hc z)
        simp (disch := omega) only [X_140_0, X_140_1, X_140_2, X_140_3, X_140_5, X_140_7_t, X_140_7_f, X_140_7, X_140_10, X_140_11, X_140_13, X_140_14, X_140_15, X_140_16, X_140_17_t, X_140_17_f, X_140_17, X_140_20, X_140_21, X_140_24, X_140_25, X_140_26, X_140_29, X_140_32, X_140_33, e0, fixp_r, fixp_i, natS]
        have q := ih (i + 1) (by omega)
        by_cases e3 : c0 < i
        · rw [if_pos (by omega)] at q
          rw [if_pos e3]
          exact q
        · rw [if_neg (by omega)] at q
          rw [if_neg e3]
          exact q
  rw [C_140]
  simp (disch := omega) only [X_140_0, X_140_1, X_140_2, X_140_3, X_140_5, X_140_7_t, X_140_7_f, X_140_7, X_140_10, X_140_11, X_140_13, X_140_14, X_140_15, X_140_16, X_140_17_t, X_140_17_f, X_140_17, X_140_20, X_140_21, X_140_24, X_140_25, X_140_26, X_140_29, X_140_32, X_140_33, fixp_r, fixp_i, fixp_n]
  exact L 14 0 rfl
