/-! 49: counts -/
theorem sumF_bd9 {g : Nat → Int} : ∀ {n i : Nat} {a : Int}, (∀ c, i ≤ c → c < i + n → 0 ≤ g c ∧ g c ≤ 9) → a ≤ sumF g n i a ∧ sumF g n i a ≤ a + 9 * (n : Int)
  | 0, _, _, _ => by simp only [sumF]; omega
  | n + 1, i, a, h => by
    simp only [sumF]
    have h1 := h i (Nat.le_refl _) (by omega)
    have h2 := sumF_bd9 (g := g) (n := n) (i := i + 1) (a := a + g i) (fun c c1 c2 => h c (by omega) (by omega))
    omega
theorem S_rowsThere {d : Nat}  {h : AH} {Q : Option AV → AG → AH → Prop} (hd : 2 ≤ d) (HR : ∀ r, r < 6 → RowR h r) : call d 101 [.inr (.inr (some 0))] G1 h Q = Q (some (.inl (sumF (fun r => if h 68 r < 0 then (0 : Int) else 1) 6 0 0))) G1 h := by
  obtain ⟨d, rfl, hd2⟩ := pos_of hd
  have g0 := g1_0
  have g1 := g1_1
  have L : ∀ (n i : Nat) (a : Int), i + n = 6 → wp d 101 4 [some (.inr (.inr (some 0))), some (.inl a), some (.inl (i : Int))] [] G1 h Q = Q (some (.inl (sumF (fun r => if h 68 r < 0 then (0 : Int) else 1) n i a))) G1 h := by
    intro n
    induction n with
    | zero =>
      intro i a hi
      obtain rfl : i = 6 := by omega
      simp (disch := omega) only [X_101_4, X_101_0, X_101_1, X_101_2, X_101_3, X_101_5, X_101_7_t, X_101_7_f, X_101_7, X_101_10, X_101_11, X_101_12, X_101_15, X_101_16, X_101_17, X_101_20_t, X_101_20_f, X_101_20, X_101_23, X_101_24, X_101_27, X_101_28, X_101_29, X_101_30, X_101_33, X_101_36, X_101_37, sumF]
    | succ n ih =>
      intro i a hi
      have R := HR i (by omega)
      have hR := rows_r (r := i) (by omega)
      have hw := hR.2
      have hs := rw_s hw
      have R1 := R.1
      have R2 := R.2.2.1
      have R3 := R.2.2.2.1
      by_cases z : h 68 i < 0
      · have gi : (fun r => if h 68 r < 0 then (0 : Int) else 1) i = 0 := if_pos z
        have q := ih (i + 1) (a + 0) (by omega)
        have e : sumF (fun r => if h 68 r < 0 then (0 : Int) else 1) (n + 1) i a = sumF (fun r => if h 68 r < 0 then (0 : Int) else 1) n (i + 1) (a + 0) := congrArg (fun x => sumF (fun r => if h 68 r < 0 then (0 : Int) else 1) n (i + 1) (a + x)) gi
        rw [e, ← q, X_101_4]
        simp (disch := omega) only [X_101_0, X_101_1, X_101_2, X_101_3, X_101_5, X_101_7_t, X_101_7_f, X_101_7, X_101_10, X_101_11, X_101_12, X_101_15, X_101_16, X_101_17, X_101_20_t, X_101_20_f, X_101_20, X_101_23, X_101_24, X_101_27, X_101_28, X_101_29, X_101_30, X_101_33, X_101_36, X_101_37, r1_0_0, hR.1, S_isMissing_t, pushR_some, Int.toNat_natCast, fixp_i, fixp_r, natS]
      · have gi : (fun r => if h 68 r < 0 then (0 : Int) else 1) i = 1 := if_neg z
        have q := ih (i + 1) (a + 1) (by omega)
        have e : sumF (fun r => if h 68 r < 0 then (0 : Int) else 1) (n + 1) i a = sumF (fun r => if h 68 r < 0 then (0 : Int) else 1) n (i + 1) (a + 1) := congrArg (fun x => sumF (fun r => if h 68 r < 0 then (0 : Int) else 1) n (i + 1) (a + x)) gi
        rw [e, ← q, X_101_4]
        simp (disch := omega) only [X_101_0, X_101_1, X_101_2, X_101_3, X_101_5, X_101_7_t, X_101_7_f, X_101_7, X_101_10, X_101_11, X_101_12, X_101_15, X_101_16, X_101_17, X_101_20_t, X_101_20_f, X_101_20, X_101_23, X_101_24, X_101_27, X_101_28, X_101_29, X_101_30, X_101_33, X_101_36, X_101_37, r1_0_0, hR.1, S_isMissing_f, pushR_some, Int.toNat_natCast, fixp_i, fixp_r, natS]
  rw [C_101]
  simp (disch := omega) only [X_101_0, X_101_1, X_101_2, X_101_3, X_101_5, X_101_7_t, X_101_7_f, X_101_7, X_101_10, X_101_11, X_101_12, X_101_15, X_101_16, X_101_17, X_101_20_t, X_101_20_f, X_101_20, X_101_23, X_101_24, X_101_27, X_101_28, X_101_29, X_101_30, X_101_33, X_101_36, X_101_37, fixp_i, fixp_r]
  exact L 6 0 0 rfl
theorem S_textsThere {d : Nat}  {h : AH} {Q : Option AV → AG → AH → Prop} (hd : 2 ≤ d) (HR : ∀ r, r < 4 → TxtR h r) : call d 102 [.inr (.inr (some 0))] G1 h Q = Q (some (.inl (sumF (fun r => if h 70 r < 0 then (0 : Int) else 1) 4 0 0))) G1 h := by
  obtain ⟨d, rfl, hd2⟩ := pos_of hd
  have g0 := g1_0
  have g1 := g1_2
  have L : ∀ (n i : Nat) (a : Int), i + n = 4 → wp d 102 4 [some (.inr (.inr (some 0))), some (.inl a), some (.inl (i : Int))] [] G1 h Q = Q (some (.inl (sumF (fun r => if h 70 r < 0 then (0 : Int) else 1) n i a))) G1 h := by
    intro n
    induction n with
    | zero =>
      intro i a hi
      obtain rfl : i = 4 := by omega
      simp (disch := omega) only [X_102_4, X_102_0, X_102_1, X_102_2, X_102_3, X_102_5, X_102_6_t, X_102_6_f, X_102_6, X_102_9, X_102_10, X_102_11, X_102_14, X_102_15, X_102_16, X_102_19_t, X_102_19_f, X_102_19, X_102_22, X_102_23, X_102_26, X_102_27, X_102_28, X_102_29, X_102_32, X_102_35, X_102_36, sumF]
    | succ n ih =>
      intro i a hi
      have R := HR i (by omega)
      have hR := texts_r (r := i) (by omega)
      have hw := hR.2
      have hs := rw_s hw
      have R1 := R.1
      have R2 := R.2.2.1
      have R3 := R.2.2.2.1
      by_cases z : h 70 i < 0
      · have gi : (fun r => if h 70 r < 0 then (0 : Int) else 1) i = 0 := if_pos z
        have q := ih (i + 1) (a + 0) (by omega)
        have e : sumF (fun r => if h 70 r < 0 then (0 : Int) else 1) (n + 1) i a = sumF (fun r => if h 70 r < 0 then (0 : Int) else 1) n (i + 1) (a + 0) := congrArg (fun x => sumF (fun r => if h 70 r < 0 then (0 : Int) else 1) n (i + 1) (a + x)) gi
        rw [e, ← q, X_102_4]
        simp (disch := omega) only [X_102_0, X_102_1, X_102_2, X_102_3, X_102_5, X_102_6_t, X_102_6_f, X_102_6, X_102_9, X_102_10, X_102_11, X_102_14, X_102_15, X_102_16, X_102_19_t, X_102_19_f, X_102_19, X_102_22, X_102_23, X_102_26, X_102_27, X_102_28, X_102_29, X_102_32, X_102_35, X_102_36, r1_0_1, hR.1, S_isMissing_t, pushR_some, Int.toNat_natCast, fixp_i, fixp_r, natS]
      · have gi : (fun r => if h 70 r < 0 then (0 : Int) else 1) i = 1 := if_neg z
        have q := ih (i + 1) (a + 1) (by omega)
        have e : sumF (fun r => if h 70 r < 0 then (0 : Int) else 1) (n + 1) i a = sumF (fun r => if h 70 r < 0 then (0 : Int) else 1) n (i + 1) (a + 1) := congrArg (fun x => sumF (fun r => if h 70 r < 0 then (0 : Int) else 1) n (i + 1) (a + x)) gi
        rw [e, ← q, X_102_4]
        simp (disch := omega) only [X_102_0, X_102_1, X_102_2, X_102_3, X_102_5, X_102_6_t, X_102_6_f, X_102_6, X_102_9, X_102_10, X_102_11, X_102_14, X_102_15, X_102_16, X_102_19_t, X_102_19_f, X_102_19, X_102_22, X_102_23, X_102_26, X_102_27, X_102_28, X_102_29, X_102_32, X_102_35, X_102_36, r1_0_1, hR.1, S_isMissing_f, pushR_some, Int.toNat_natCast, fixp_i, fixp_r, natS]
  rw [C_102]
  simp (disch := omega) only [X_102_0, X_102_1, X_102_2, X_102_3, X_102_5, X_102_6_t, X_102_6_f, X_102_6, X_102_9, X_102_10, X_102_11, X_102_14, X_102_15, X_102_16, X_102_19_t, X_102_19_f, X_102_19, X_102_22, X_102_23, X_102_26, X_102_27, X_102_28, X_102_29, X_102_32, X_102_35, X_102_36, fixp_i, fixp_r]
  exact L 4 0 0 rfl
theorem S_toysKept {d : Nat}  {h : AH} {Q : Option AV → AG → AH → Prop} (hd : 1 ≤ d) (HR : ∀ r, r < 3 → h (42 + 7 * r) 8 = h 66 r ∧ (h 66 r = 0 ∨ h 66 r = 1)) : call d 103 [.inr (.inr (some 0))] G1 h Q = Q (some (.inl (sumF (fun k => if h 66 k = 0 then (0 : Int) else 1) 3 0 0))) G1 h := by
  obtain ⟨d, rfl, hd2⟩ := pos_of hd
  have g0 := g1_0
  have g1 := g1_17
  have L : ∀ (n i : Nat) (a : Int), i + n = 3 → wp d 103 4 [some (.inr (.inr (some 0))), some (.inl a), some (.inl (i : Int))] [] G1 h Q = Q (some (.inl (sumF (fun k => if h 66 k = 0 then (0 : Int) else 1) n i a))) G1 h := by
    intro n
    induction n with
    | zero =>
      intro i a hi
      obtain rfl : i = 3 := by omega
      simp (disch := omega) only [X_103_4, X_103_0, X_103_1, X_103_2, X_103_3, X_103_5, X_103_6_t, X_103_6_f, X_103_6, X_103_9, X_103_10, X_103_11, X_103_14, X_103_15, X_103_16, X_103_19_t, X_103_19_f, X_103_19, X_103_22, X_103_23, X_103_26, X_103_27, X_103_28, X_103_29, X_103_32, X_103_35, X_103_36, sumF]
    | succ n ih =>
      intro i a hi
      have R := HR i (by omega)
      have hR := kept_r (r := i) (by omega)
      have hs := toy_s hR.2
      have R1 := R.1
      by_cases z : h 66 i = 0
      · have gi : (fun k => if h 66 k = 0 then (0 : Int) else 1) i = 0 := if_pos z
        have q := ih (i + 1) (a + 0) (by omega)
        have e : sumF (fun k => if h 66 k = 0 then (0 : Int) else 1) (n + 1) i a = sumF (fun k => if h 66 k = 0 then (0 : Int) else 1) n (i + 1) (a + 0) := congrArg (fun x => sumF (fun k => if h 66 k = 0 then (0 : Int) else 1) n (i + 1) (a + x)) gi
        rw [e, ← q, X_103_4]
        simp (disch := omega) only [X_103_0, X_103_1, X_103_2, X_103_3, X_103_5, X_103_6_t, X_103_6_f, X_103_6, X_103_9, X_103_10, X_103_11, X_103_14, X_103_15, X_103_16, X_103_19_t, X_103_19_f, X_103_19, X_103_22, X_103_23, X_103_26, X_103_27, X_103_28, X_103_29, X_103_32, X_103_35, X_103_36, r1_0_4, hR.1, pushR_some, Int.toNat_natCast, fixp_i, fixp_r, natS]
      · have gi : (fun k => if h 66 k = 0 then (0 : Int) else 1) i = 1 := if_neg z
        have q := ih (i + 1) (a + 1) (by omega)
        have e : sumF (fun k => if h 66 k = 0 then (0 : Int) else 1) (n + 1) i a = sumF (fun k => if h 66 k = 0 then (0 : Int) else 1) n (i + 1) (a + 1) := congrArg (fun x => sumF (fun k => if h 66 k = 0 then (0 : Int) else 1) n (i + 1) (a + x)) gi
        rw [e, ← q, X_103_4]
        simp (disch := omega) only [X_103_0, X_103_1, X_103_2, X_103_3, X_103_5, X_103_6_t, X_103_6_f, X_103_6, X_103_9, X_103_10, X_103_11, X_103_14, X_103_15, X_103_16, X_103_19_t, X_103_19_f, X_103_19, X_103_22, X_103_23, X_103_26, X_103_27, X_103_28, X_103_29, X_103_32, X_103_35, X_103_36, r1_0_4, hR.1, pushR_some, Int.toNat_natCast, fixp_i, fixp_r, natS]
  rw [C_103]
  simp (disch := omega) only [X_103_0, X_103_1, X_103_2, X_103_3, X_103_5, X_103_6_t, X_103_6_f, X_103_6, X_103_9, X_103_10, X_103_11, X_103_14, X_103_15, X_103_16, X_103_19_t, X_103_19_f, X_103_19, X_103_22, X_103_23, X_103_26, X_103_27, X_103_28, X_103_29, X_103_32, X_103_35, X_103_36, fixp_i, fixp_r]
  exact L 3 0 0 rfl
theorem S_beadsAtHome {d : Nat}  {h : AH} {Q : Option AV → AG → AH → Prop} (hd : 1 ≤ d) (hT : TR h 3 (h 64)) (hf : tyOk (h 64) 40) : call d 35 [.inr (.inr (some 3))] G1 h Q = Q (some (.inl (sumF (fun i => if h 64 (69 + i) = (i : Int) then (1 : Int) else 0) 14 0 0))) G1 h := by
  obtain ⟨d, rfl, hd2⟩ := pos_of hd
  have t3 : isToy 3 := Or.inl rfl
  have s3 := toy_s t3
  have r3 := toy_r t3
  have L : ∀ (n i : Nat) (a : Int), i + n = 14 → wp d 35 4 [some (.inr (.inr (some 3))), some (.inl a), some (.inl (i : Int))] [] G1 h Q = Q (some (.inl (sumF (fun i => if h 64 (69 + i) = (i : Int) then (1 : Int) else 0) n i a))) G1 h := by
    intro n
    induction n with
    | zero =>
      intro i a hi
      obtain rfl : i = 14 := by omega
      simp (disch := omega) only [X_35_4, X_35_0, X_35_1, X_35_2, X_35_3, X_35_5, X_35_7_t, X_35_7_f, X_35_7, X_35_10, X_35_11, X_35_12, X_35_15, X_35_16, X_35_17, X_35_18_t, X_35_18_f, X_35_18, X_35_21, X_35_22, X_35_25, X_35_26, X_35_27, X_35_28, X_35_31, X_35_34, X_35_35, sumF]
    | succ n ih =>
      intro i a hi
      have pl : 0 ≤ h (3 + 3) i ∧ h (3 + 3) i < 14 ∧ (h (3 + 3) i = (i : Int) ↔ h 64 (69 + i) = (i : Int)) := by
        obtain ⟨c, hc, e⟩ := hf.2.1 i (by omega)
        have k4 := hT.2.2.2.2.2 c hc
        rw [e, Int.toNat_natCast] at k4
        refine ⟨by omega, by omega, fun q => ?_, fun q => ?_⟩
        · have : c = i := by omega
          subst this; exact e
        · have : i = c := hf.1.2 i (by omega) c hc (by rw [q, e])
          omega
      by_cases z : h 64 (69 + i) = (i : Int)
      · have gi : (fun i => if h 64 (69 + i) = (i : Int) then (1 : Int) else 0) i = 1 := if_pos z
        have q := ih (i + 1) (a + 1) (by omega)
        have e : sumF (fun i => if h 64 (69 + i) = (i : Int) then (1 : Int) else 0) (n + 1) i a = sumF (fun i => if h 64 (69 + i) = (i : Int) then (1 : Int) else 0) n (i + 1) (a + 1) := congrArg (fun x => sumF (fun i => if h 64 (69 + i) = (i : Int) then (1 : Int) else 0) n (i + 1) (a + x)) gi
        rw [e, ← q, X_35_4]
        simp (disch := omega) only [X_35_0, X_35_1, X_35_2, X_35_3, X_35_5, X_35_7_t, X_35_7_f, X_35_7, X_35_10, X_35_11, X_35_12, X_35_15, X_35_16, X_35_17, X_35_18_t, X_35_18_f, X_35_18, X_35_21, X_35_22, X_35_25, X_35_26, X_35_27, X_35_28, X_35_31, X_35_34, X_35_35, r3, pushR_some, Int.toNat_natCast, fixp_i, fixp_r, natS]
      · have gi : (fun i => if h 64 (69 + i) = (i : Int) then (1 : Int) else 0) i = 0 := if_neg z
        have q := ih (i + 1) (a + 0) (by omega)
        have e : sumF (fun i => if h 64 (69 + i) = (i : Int) then (1 : Int) else 0) (n + 1) i a = sumF (fun i => if h 64 (69 + i) = (i : Int) then (1 : Int) else 0) n (i + 1) (a + 0) := congrArg (fun x => sumF (fun i => if h 64 (69 + i) = (i : Int) then (1 : Int) else 0) n (i + 1) (a + x)) gi
        rw [e, ← q, X_35_4]
        simp (disch := omega) only [X_35_0, X_35_1, X_35_2, X_35_3, X_35_5, X_35_7_t, X_35_7_f, X_35_7, X_35_10, X_35_11, X_35_12, X_35_15, X_35_16, X_35_17, X_35_18_t, X_35_18_f, X_35_18, X_35_21, X_35_22, X_35_25, X_35_26, X_35_27, X_35_28, X_35_31, X_35_34, X_35_35, r3, pushR_some, Int.toNat_natCast, fixp_i, fixp_r, natS]
  rw [C_35]
  simp (disch := omega) only [X_35_0, X_35_1, X_35_2, X_35_3, X_35_5, X_35_7_t, X_35_7_f, X_35_7, X_35_10, X_35_11, X_35_12, X_35_15, X_35_16, X_35_17, X_35_18_t, X_35_18_f, X_35_18, X_35_21, X_35_22, X_35_25, X_35_26, X_35_27, X_35_28, X_35_31, X_35_34, X_35_35, fixp_i, fixp_r]
  exact L 14 0 0 rfl
theorem S_beadsOfKind {d : Nat} {y : Int} {h : AH} {Q : Option AV → AG → AH → Prop} (hd : 2 ≤ d) (hT : TR h 3 (h 64)) (hf : tyOk (h 64) 40) (hy : y = 1 ∨ y = 3) : call d 36 [.inr (.inr (some 3)), .inl y] G1 h Q = Q (some (.inl (sumF (fun i => if h 64 i = y ∨ (y = 1 ∧ h 64 i = 4) ∨ (y = 3 ∧ h 64 i = 5) then (1 : Int) else 0) 14 0 0))) G1 h := by
  obtain ⟨d, rfl, hd2⟩ := pos_of hd
  have t3 : isToy 3 := Or.inl rfl
  have s3 := toy_s t3
  have r3 := toy_r t3
  have L : ∀ (n i : Nat) (a : Int), i + n = 14 → wp d 36 4 [some (.inr (.inr (some 3))), some (.inl y), some (.inl a), some (.inl (i : Int))] [] G1 h Q = Q (some (.inl (sumF (fun i => if h 64 i = y ∨ (y = 1 ∧ h 64 i = 4) ∨ (y = 3 ∧ h 64 i = 5) then (1 : Int) else 0) n i a))) G1 h := by
    intro n
    induction n with
    | zero =>
      intro i a hi
      obtain rfl : i = 14 := by omega
      simp (disch := omega) only [X_36_4, X_36_0, X_36_1, X_36_2, X_36_3, X_36_5, X_36_7_t, X_36_7_f, X_36_7, X_36_10, X_36_11, X_36_12, X_36_15, X_36_16, X_36_17, X_36_18, X_36_21_t, X_36_21_f, X_36_21, X_36_24, X_36_25, X_36_28, X_36_29, X_36_30, X_36_31, X_36_34, X_36_37, X_36_38, sumF]
    | succ n ih =>
      intro i a hi
      have k1 := hT.1 i (by omega)
      have b1 := hf.2.2.1 i (by omega)
      by_cases z : h 64 i = y ∨ (y = 1 ∧ h 64 i = 4) ∨ (y = 3 ∧ h 64 i = 5)
      · have gi : (fun i => if h 64 i = y ∨ (y = 1 ∧ h 64 i = 4) ∨ (y = 3 ∧ h 64 i = 5) then (1 : Int) else 0) i = 1 := if_pos z
        have q := ih (i + 1) (a + 1) (by omega)
        have e : sumF (fun i => if h 64 i = y ∨ (y = 1 ∧ h 64 i = 4) ∨ (y = 3 ∧ h 64 i = 5) then (1 : Int) else 0) (n + 1) i a = sumF (fun i => if h 64 i = y ∨ (y = 1 ∧ h 64 i = 4) ∨ (y = 3 ∧ h 64 i = 5) then (1 : Int) else 0) n (i + 1) (a + 1) := congrArg (fun x => sumF (fun i => if h 64 i = y ∨ (y = 1 ∧ h 64 i = 4) ∨ (y = 3 ∧ h 64 i = 5) then (1 : Int) else 0) n (i + 1) (a + x)) gi
        rw [e, ← q, X_36_4]
        simp (disch := omega) only [X_36_0, X_36_1, X_36_2, X_36_3, X_36_5, X_36_7_t, X_36_7_f, X_36_7, X_36_10, X_36_11, X_36_12, X_36_15, X_36_16, X_36_17, X_36_18, X_36_21_t, X_36_21_f, X_36_21, X_36_24, X_36_25, X_36_28, X_36_29, X_36_30, X_36_31, X_36_34, X_36_37, X_36_38, r3, k1, S_isOfKind_t, pushR_some, Int.toNat_natCast, fixp_i, fixp_r, natS]
      · have gi : (fun i => if h 64 i = y ∨ (y = 1 ∧ h 64 i = 4) ∨ (y = 3 ∧ h 64 i = 5) then (1 : Int) else 0) i = 0 := if_neg z
        have q := ih (i + 1) (a + 0) (by omega)
        have e : sumF (fun i => if h 64 i = y ∨ (y = 1 ∧ h 64 i = 4) ∨ (y = 3 ∧ h 64 i = 5) then (1 : Int) else 0) (n + 1) i a = sumF (fun i => if h 64 i = y ∨ (y = 1 ∧ h 64 i = 4) ∨ (y = 3 ∧ h 64 i = 5) then (1 : Int) else 0) n (i + 1) (a + 0) := congrArg (fun x => sumF (fun i => if h 64 i = y ∨ (y = 1 ∧ h 64 i = 4) ∨ (y = 3 ∧ h 64 i = 5) then (1 : Int) else 0) n (i + 1) (a + x)) gi
        rw [e, ← q, X_36_4]
        simp (disch := omega) only [X_36_0, X_36_1, X_36_2, X_36_3, X_36_5, X_36_7_t, X_36_7_f, X_36_7, X_36_10, X_36_11, X_36_12, X_36_15, X_36_16, X_36_17, X_36_18, X_36_21_t, X_36_21_f, X_36_21, X_36_24, X_36_25, X_36_28, X_36_29, X_36_30, X_36_31, X_36_34, X_36_37, X_36_38, r3, k1, S_isOfKind_f, pushR_some, Int.toNat_natCast, fixp_i, fixp_r, natS]
  rw [C_36]
  simp (disch := omega) only [X_36_0, X_36_1, X_36_2, X_36_3, X_36_5, X_36_7_t, X_36_7_f, X_36_7, X_36_10, X_36_11, X_36_12, X_36_15, X_36_16, X_36_17, X_36_18, X_36_21_t, X_36_21_f, X_36_21, X_36_24, X_36_25, X_36_28, X_36_29, X_36_30, X_36_31, X_36_34, X_36_37, X_36_38, fixp_i, fixp_r]
  exact L 14 0 0 rfl
theorem S3_manyHome {d : Nat}  {h : AH} {Q : Option AV → AG → AH → Prop} (hd : 1 ≤ d) (hf : tyOk (h 64) 40) : call d 199 [.inr (.inr (some 63))] G1 h Q = Q (some (.inl (sumF (fun i => if h 64 (69 + i) = (i : Int) then (1 : Int) else 0) 14 0 0))) G1 h := by
  obtain ⟨d, rfl, hd2⟩ := pos_of hd
  have g0 := g1_63
  have g1 := g1_64
  have L : ∀ (n i : Nat) (a : Int), i + n = 14 → wp d 199 4 [some (.inr (.inr (some 63))), some (.inl a), some (.inl (i : Int))] [] G1 h Q = Q (some (.inl (sumF (fun i => if h 64 (69 + i) = (i : Int) then (1 : Int) else 0) n i a))) G1 h := by
    intro n
    induction n with
    | zero =>
      intro i a hi
      obtain rfl : i = 14 := by omega
      simp (disch := omega) only [X_199_4, X_199_0, X_199_1, X_199_2, X_199_3, X_199_5, X_199_7_t, X_199_7_f, X_199_7, X_199_10, X_199_11, X_199_12, X_199_15, X_199_17, X_199_18, X_199_19, X_199_20, X_199_21_t, X_199_21_f, X_199_21, X_199_24, X_199_25, X_199_28, X_199_29, X_199_30, X_199_31, X_199_34, X_199_37, X_199_38, sumF]
    | succ n ih =>
      intro i a hi
      have b1 := hf.1.1 i (by omega)
      by_cases z : h 64 (69 + i) = (i : Int)
      · have gi : (fun i => if h 64 (69 + i) = (i : Int) then (1 : Int) else 0) i = 1 := if_pos z
        have q := ih (i + 1) (a + 1) (by omega)
        have e : sumF (fun i => if h 64 (69 + i) = (i : Int) then (1 : Int) else 0) (n + 1) i a = sumF (fun i => if h 64 (69 + i) = (i : Int) then (1 : Int) else 0) n (i + 1) (a + 1) := congrArg (fun x => sumF (fun i => if h 64 (69 + i) = (i : Int) then (1 : Int) else 0) n (i + 1) (a + x)) gi
        rw [e, ← q, X_199_4]
        simp (disch := omega) only [X_199_0, X_199_1, X_199_2, X_199_3, X_199_5, X_199_7_t, X_199_7_f, X_199_7, X_199_10, X_199_11, X_199_12, X_199_15, X_199_17, X_199_18, X_199_19, X_199_20, X_199_21_t, X_199_21_f, X_199_21, X_199_24, X_199_25, X_199_28, X_199_29, X_199_30, X_199_31, X_199_34, X_199_37, X_199_38, r1_63_0, tn69b, pushR_some, Int.toNat_natCast, fixp_i, fixp_r, natS]
      · have gi : (fun i => if h 64 (69 + i) = (i : Int) then (1 : Int) else 0) i = 0 := if_neg z
        have q := ih (i + 1) (a + 0) (by omega)
        have e : sumF (fun i => if h 64 (69 + i) = (i : Int) then (1 : Int) else 0) (n + 1) i a = sumF (fun i => if h 64 (69 + i) = (i : Int) then (1 : Int) else 0) n (i + 1) (a + 0) := congrArg (fun x => sumF (fun i => if h 64 (69 + i) = (i : Int) then (1 : Int) else 0) n (i + 1) (a + x)) gi
        rw [e, ← q, X_199_4]
        simp (disch := omega) only [X_199_0, X_199_1, X_199_2, X_199_3, X_199_5, X_199_7_t, X_199_7_f, X_199_7, X_199_10, X_199_11, X_199_12, X_199_15, X_199_17, X_199_18, X_199_19, X_199_20, X_199_21_t, X_199_21_f, X_199_21, X_199_24, X_199_25, X_199_28, X_199_29, X_199_30, X_199_31, X_199_34, X_199_37, X_199_38, r1_63_0, tn69b, pushR_some, Int.toNat_natCast, fixp_i, fixp_r, natS]
  rw [C_199]
  simp (disch := omega) only [X_199_0, X_199_1, X_199_2, X_199_3, X_199_5, X_199_7_t, X_199_7_f, X_199_7, X_199_10, X_199_11, X_199_12, X_199_15, X_199_17, X_199_18, X_199_19, X_199_20, X_199_21_t, X_199_21_f, X_199_21, X_199_24, X_199_25, X_199_28, X_199_29, X_199_30, X_199_31, X_199_34, X_199_37, X_199_38, fixp_i, fixp_r]
  exact L 14 0 0 rfl
theorem S3_manyOf {d : Nat} {y : Int} {h : AH} {Q : Option AV → AG → AH → Prop} (hd : 2 ≤ d) (hf : tyOk (h 64) 40) (hy : y = 1 ∨ y = 3) : call d 200 [.inr (.inr (some 63)), .inl y] G1 h Q = Q (some (.inl (sumF (fun i => if h 64 i = y ∨ (y = 1 ∧ h 64 i = 4) ∨ (y = 3 ∧ h 64 i = 5) then (1 : Int) else 0) 14 0 0))) G1 h := by
  obtain ⟨d, rfl, hd2⟩ := pos_of hd
  have g0 := g1_63
  have g1 := g1_64
  have L : ∀ (n i : Nat) (a : Int), i + n = 14 → wp d 200 4 [some (.inr (.inr (some 63))), some (.inl y), some (.inl a), some (.inl (i : Int))] [] G1 h Q = Q (some (.inl (sumF (fun i => if h 64 i = y ∨ (y = 1 ∧ h 64 i = 4) ∨ (y = 3 ∧ h 64 i = 5) then (1 : Int) else 0) n i a))) G1 h := by
    intro n
    induction n with
    | zero =>
      intro i a hi
      obtain rfl : i = 14 := by omega
      simp (disch := omega) only [X_200_4, X_200_0, X_200_1, X_200_2, X_200_3, X_200_5, X_200_7_t, X_200_7_f, X_200_7, X_200_10, X_200_11, X_200_12, X_200_15, X_200_16, X_200_17, X_200_18, X_200_19, X_200_20, X_200_23_t, X_200_23_f, X_200_23, X_200_26, X_200_27, X_200_30, X_200_31, X_200_32, X_200_33, X_200_36, X_200_39, X_200_40, sumF]
    | succ n ih =>
      intro i a hi
      have b1 := hf.2.2.1 i (by omega)
      by_cases z : h 64 i = y ∨ (y = 1 ∧ h 64 i = 4) ∨ (y = 3 ∧ h 64 i = 5)
      · have gi : (fun i => if h 64 i = y ∨ (y = 1 ∧ h 64 i = 4) ∨ (y = 3 ∧ h 64 i = 5) then (1 : Int) else 0) i = 1 := if_pos z
        have q := ih (i + 1) (a + 1) (by omega)
        have e : sumF (fun i => if h 64 i = y ∨ (y = 1 ∧ h 64 i = 4) ∨ (y = 3 ∧ h 64 i = 5) then (1 : Int) else 0) (n + 1) i a = sumF (fun i => if h 64 i = y ∨ (y = 1 ∧ h 64 i = 4) ∨ (y = 3 ∧ h 64 i = 5) then (1 : Int) else 0) n (i + 1) (a + 1) := congrArg (fun x => sumF (fun i => if h 64 i = y ∨ (y = 1 ∧ h 64 i = 4) ∨ (y = 3 ∧ h 64 i = 5) then (1 : Int) else 0) n (i + 1) (a + x)) gi
        rw [e, ← q, X_200_4]
        simp (disch := omega) only [X_200_0, X_200_1, X_200_2, X_200_3, X_200_5, X_200_7_t, X_200_7_f, X_200_7, X_200_10, X_200_11, X_200_12, X_200_15, X_200_16, X_200_17, X_200_18, X_200_19, X_200_20, X_200_23_t, X_200_23_f, X_200_23, X_200_26, X_200_27, X_200_30, X_200_31, X_200_32, X_200_33, X_200_36, X_200_39, X_200_40, r1_63_0, tn0b, S3_isOf_t, pushR_some, Int.toNat_natCast, fixp_i, fixp_r, natS]
      · have gi : (fun i => if h 64 i = y ∨ (y = 1 ∧ h 64 i = 4) ∨ (y = 3 ∧ h 64 i = 5) then (1 : Int) else 0) i = 0 := if_neg z
        have q := ih (i + 1) (a + 0) (by omega)
        have e : sumF (fun i => if h 64 i = y ∨ (y = 1 ∧ h 64 i = 4) ∨ (y = 3 ∧ h 64 i = 5) then (1 : Int) else 0) (n + 1) i a = sumF (fun i => if h 64 i = y ∨ (y = 1 ∧ h 64 i = 4) ∨ (y = 3 ∧ h 64 i = 5) then (1 : Int) else 0) n (i + 1) (a + 0) := congrArg (fun x => sumF (fun i => if h 64 i = y ∨ (y = 1 ∧ h 64 i = 4) ∨ (y = 3 ∧ h 64 i = 5) then (1 : Int) else 0) n (i + 1) (a + x)) gi
        rw [e, ← q, X_200_4]
        simp (disch := omega) only [X_200_0, X_200_1, X_200_2, X_200_3, X_200_5, X_200_7_t, X_200_7_f, X_200_7, X_200_10, X_200_11, X_200_12, X_200_15, X_200_16, X_200_17, X_200_18, X_200_19, X_200_20, X_200_23_t, X_200_23_f, X_200_23, X_200_26, X_200_27, X_200_30, X_200_31, X_200_32, X_200_33, X_200_36, X_200_39, X_200_40, r1_63_0, tn0b, S3_isOf_f, pushR_some, Int.toNat_natCast, fixp_i, fixp_r, natS]
  rw [C_200]
  simp (disch := omega) only [X_200_0, X_200_1, X_200_2, X_200_3, X_200_5, X_200_7_t, X_200_7_f, X_200_7, X_200_10, X_200_11, X_200_12, X_200_15, X_200_16, X_200_17, X_200_18, X_200_19, X_200_20, X_200_23_t, X_200_23_f, X_200_23, X_200_26, X_200_27, X_200_30, X_200_31, X_200_32, X_200_33, X_200_36, X_200_39, X_200_40, fixp_i, fixp_r]
  exact L 14 0 0 rfl
theorem S3_many9 {d : Nat}  {h : AH} {Q : Option AV → AG → AH → Prop} (hd : 1 ≤ d) (HR : ∀ r, r < 6 → RowR h r) : call d 201 [.inr (.inr (some 63)), .inl 9] G1 h Q = Q (some (.inl (sumF (fun r => if h 68 r < 0 then (0 : Int) else 1) 6 0 0))) G1 h := by
  obtain ⟨d, rfl, hd2⟩ := pos_of hd
  have g0 := g1_63
  have g1 := g1_68
  have L : ∀ (n i : Nat) (a : Int), i + n = 6 → wp d 201 4 [some (.inr (.inr (some 63))), some (.inl 9), some (.inl a), some (.inl (i : Int))] [] G1 h Q = Q (some (.inl (sumF (fun r => if h 68 r < 0 then (0 : Int) else 1) n i a))) G1 h := by
    intro n
    induction n with
    | zero =>
      intro i a hi
      obtain rfl : i = 6 := by omega
      simp (disch := omega) only [X_201_4, X_201_0, X_201_1, X_201_2, X_201_3, X_201_5, X_201_7_t, X_201_7_f, X_201_7, X_201_10, X_201_11, X_201_12, X_201_14_t, X_201_14_f, X_201_14, X_201_17, X_201_18, X_201_21, X_201_22, X_201_23_t, X_201_23_f, X_201_23, X_201_26, X_201_27, X_201_30, X_201_31, X_201_34, X_201_35, X_201_37_t, X_201_37_f, X_201_37, X_201_40, X_201_41, X_201_42_t, X_201_42_f, X_201_42, X_201_45, X_201_46, X_201_49, X_201_50, X_201_51_t, X_201_51_f, X_201_51, X_201_54, X_201_55, X_201_58, X_201_59, X_201_62, X_201_63, X_201_64_t, X_201_64_f, X_201_64, X_201_67, X_201_68, X_201_71, X_201_72, X_201_73_t, X_201_73_f, X_201_73, X_201_76, X_201_77, X_201_80, X_201_81, X_201_82, X_201_83, X_201_86, X_201_89, X_201_90, sumF]
    | succ n ih =>
      intro i a hi
      have R := HR i (by omega)
      have R2 := R.2.2.1
      have R3 := R.2.2.2.1
      by_cases z : h 68 i < 0
      · have gi : (fun r => if h 68 r < 0 then (0 : Int) else 1) i = 0 := if_pos z
        have q := ih (i + 1) (a + 0) (by omega)
        have e : sumF (fun r => if h 68 r < 0 then (0 : Int) else 1) (n + 1) i a = sumF (fun r => if h 68 r < 0 then (0 : Int) else 1) n (i + 1) (a + 0) := congrArg (fun x => sumF (fun r => if h 68 r < 0 then (0 : Int) else 1) n (i + 1) (a + x)) gi
        rw [e, ← q, X_201_4]
        simp (disch := omega) only [X_201_0, X_201_1, X_201_2, X_201_3, X_201_5, X_201_7_t, X_201_7_f, X_201_7, X_201_10, X_201_11, X_201_12, X_201_14_t, X_201_14_f, X_201_14, X_201_17, X_201_18, X_201_21, X_201_22, X_201_23_t, X_201_23_f, X_201_23, X_201_26, X_201_27, X_201_30, X_201_31, X_201_34, X_201_35, X_201_37_t, X_201_37_f, X_201_37, X_201_40, X_201_41, X_201_42_t, X_201_42_f, X_201_42, X_201_45, X_201_46, X_201_49, X_201_50, X_201_51_t, X_201_51_f, X_201_51, X_201_54, X_201_55, X_201_58, X_201_59, X_201_62, X_201_63, X_201_64_t, X_201_64_f, X_201_64, X_201_67, X_201_68, X_201_71, X_201_72, X_201_73_t, X_201_73_f, X_201_73, X_201_76, X_201_77, X_201_80, X_201_81, X_201_82, X_201_83, X_201_86, X_201_89, X_201_90, r1_63_5, pushR_some, Int.toNat_natCast, fixp_i, fixp_r, natS]
      · have gi : (fun r => if h 68 r < 0 then (0 : Int) else 1) i = 1 := if_neg z
        have q := ih (i + 1) (a + 1) (by omega)
        have e : sumF (fun r => if h 68 r < 0 then (0 : Int) else 1) (n + 1) i a = sumF (fun r => if h 68 r < 0 then (0 : Int) else 1) n (i + 1) (a + 1) := congrArg (fun x => sumF (fun r => if h 68 r < 0 then (0 : Int) else 1) n (i + 1) (a + x)) gi
        rw [e, ← q, X_201_4]
        simp (disch := omega) only [X_201_0, X_201_1, X_201_2, X_201_3, X_201_5, X_201_7_t, X_201_7_f, X_201_7, X_201_10, X_201_11, X_201_12, X_201_14_t, X_201_14_f, X_201_14, X_201_17, X_201_18, X_201_21, X_201_22, X_201_23_t, X_201_23_f, X_201_23, X_201_26, X_201_27, X_201_30, X_201_31, X_201_34, X_201_35, X_201_37_t, X_201_37_f, X_201_37, X_201_40, X_201_41, X_201_42_t, X_201_42_f, X_201_42, X_201_45, X_201_46, X_201_49, X_201_50, X_201_51_t, X_201_51_f, X_201_51, X_201_54, X_201_55, X_201_58, X_201_59, X_201_62, X_201_63, X_201_64_t, X_201_64_f, X_201_64, X_201_67, X_201_68, X_201_71, X_201_72, X_201_73_t, X_201_73_f, X_201_73, X_201_76, X_201_77, X_201_80, X_201_81, X_201_82, X_201_83, X_201_86, X_201_89, X_201_90, r1_63_5, pushR_some, Int.toNat_natCast, fixp_i, fixp_r, natS]
  rw [C_201]
  simp (disch := omega) only [X_201_0, X_201_1, X_201_2, X_201_3, X_201_5, X_201_7_t, X_201_7_f, X_201_7, X_201_10, X_201_11, X_201_12, X_201_14_t, X_201_14_f, X_201_14, X_201_17, X_201_18, X_201_21, X_201_22, X_201_23_t, X_201_23_f, X_201_23, X_201_26, X_201_27, X_201_30, X_201_31, X_201_34, X_201_35, X_201_37_t, X_201_37_f, X_201_37, X_201_40, X_201_41, X_201_42_t, X_201_42_f, X_201_42, X_201_45, X_201_46, X_201_49, X_201_50, X_201_51_t, X_201_51_f, X_201_51, X_201_54, X_201_55, X_201_58, X_201_59, X_201_62, X_201_63, X_201_64_t, X_201_64_f, X_201_64, X_201_67, X_201_68, X_201_71, X_201_72, X_201_73_t, X_201_73_f, X_201_73, X_201_76, X_201_77, X_201_80, X_201_81, X_201_82, X_201_83, X_201_86, X_201_89, X_201_90, fixp_i, fixp_r]
  exact L 6 0 0 rfl
theorem S3_many10 {d : Nat}  {h : AH} {Q : Option AV → AG → AH → Prop} (hd : 1 ≤ d) (HR : ∀ r, r < 4 → TxtR h r) : call d 201 [.inr (.inr (some 63)), .inl 10] G1 h Q = Q (some (.inl (sumF (fun r => if r < 4 ∧ ¬ h 70 r < 0 then (1 : Int) else 0) 6 0 0))) G1 h := by
  obtain ⟨d, rfl, hd2⟩ := pos_of hd
  have g0 := g1_63
  have g1 := g1_70
  have L : ∀ (n i : Nat) (a : Int), i + n = 6 → wp d 201 4 [some (.inr (.inr (some 63))), some (.inl 10), some (.inl a), some (.inl (i : Int))] [] G1 h Q = Q (some (.inl (sumF (fun r => if r < 4 ∧ ¬ h 70 r < 0 then (1 : Int) else 0) n i a))) G1 h := by
    intro n
    induction n with
    | zero =>
      intro i a hi
      obtain rfl : i = 6 := by omega
      simp (disch := omega) only [X_201_4, X_201_0, X_201_1, X_201_2, X_201_3, X_201_5, X_201_7_t, X_201_7_f, X_201_7, X_201_10, X_201_11, X_201_12, X_201_14_t, X_201_14_f, X_201_14, X_201_17, X_201_18, X_201_21, X_201_22, X_201_23_t, X_201_23_f, X_201_23, X_201_26, X_201_27, X_201_30, X_201_31, X_201_34, X_201_35, X_201_37_t, X_201_37_f, X_201_37, X_201_40, X_201_41, X_201_42_t, X_201_42_f, X_201_42, X_201_45, X_201_46, X_201_49, X_201_50, X_201_51_t, X_201_51_f, X_201_51, X_201_54, X_201_55, X_201_58, X_201_59, X_201_62, X_201_63, X_201_64_t, X_201_64_f, X_201_64, X_201_67, X_201_68, X_201_71, X_201_72, X_201_73_t, X_201_73_f, X_201_73, X_201_76, X_201_77, X_201_80, X_201_81, X_201_82, X_201_83, X_201_86, X_201_89, X_201_90, sumF]
    | succ n ih =>
      intro i a hi
      have R : i < 4 → -1 ≤ h 70 i ∧ h 70 i ≤ 60 := fun z => ⟨(HR i z).2.2.1, (HR i z).2.2.2.1⟩
      by_cases z4 : i < 4
      case neg =>
        have gi : (fun r => if r < 4 ∧ ¬ h 70 r < 0 then (1 : Int) else 0) i = 0 := if_neg (fun q => z4 q.1)
        have q := ih (i + 1) (a + 0) (by omega)
        have e : sumF (fun r => if r < 4 ∧ ¬ h 70 r < 0 then (1 : Int) else 0) (n + 1) i a = sumF (fun r => if r < 4 ∧ ¬ h 70 r < 0 then (1 : Int) else 0) n (i + 1) (a + 0) := congrArg (fun x => sumF (fun r => if r < 4 ∧ ¬ h 70 r < 0 then (1 : Int) else 0) n (i + 1) (a + x)) gi
        rw [e, ← q, X_201_4]
        simp (disch := omega) only [X_201_0, X_201_1, X_201_2, X_201_3, X_201_5, X_201_7_t, X_201_7_f, X_201_7, X_201_10, X_201_11, X_201_12, X_201_14_t, X_201_14_f, X_201_14, X_201_17, X_201_18, X_201_21, X_201_22, X_201_23_t, X_201_23_f, X_201_23, X_201_26, X_201_27, X_201_30, X_201_31, X_201_34, X_201_35, X_201_37_t, X_201_37_f, X_201_37, X_201_40, X_201_41, X_201_42_t, X_201_42_f, X_201_42, X_201_45, X_201_46, X_201_49, X_201_50, X_201_51_t, X_201_51_f, X_201_51, X_201_54, X_201_55, X_201_58, X_201_59, X_201_62, X_201_63, X_201_64_t, X_201_64_f, X_201_64, X_201_67, X_201_68, X_201_71, X_201_72, X_201_73_t, X_201_73_f, X_201_73, X_201_76, X_201_77, X_201_80, X_201_81, X_201_82, X_201_83, X_201_86, X_201_89, X_201_90, pushR_some, Int.toNat_natCast, fixp_i, fixp_r, natS]
      replace R := R z4
      by_cases z : h 70 i < 0
      · have gi : (fun r => if r < 4 ∧ ¬ h 70 r < 0 then (1 : Int) else 0) i = 0 := if_neg (fun q => q.2 z)
        have q := ih (i + 1) (a + 0) (by omega)
        have e : sumF (fun r => if r < 4 ∧ ¬ h 70 r < 0 then (1 : Int) else 0) (n + 1) i a = sumF (fun r => if r < 4 ∧ ¬ h 70 r < 0 then (1 : Int) else 0) n (i + 1) (a + 0) := congrArg (fun x => sumF (fun r => if r < 4 ∧ ¬ h 70 r < 0 then (1 : Int) else 0) n (i + 1) (a + x)) gi
        rw [e, ← q, X_201_4]
        simp (disch := omega) only [X_201_0, X_201_1, X_201_2, X_201_3, X_201_5, X_201_7_t, X_201_7_f, X_201_7, X_201_10, X_201_11, X_201_12, X_201_14_t, X_201_14_f, X_201_14, X_201_17, X_201_18, X_201_21, X_201_22, X_201_23_t, X_201_23_f, X_201_23, X_201_26, X_201_27, X_201_30, X_201_31, X_201_34, X_201_35, X_201_37_t, X_201_37_f, X_201_37, X_201_40, X_201_41, X_201_42_t, X_201_42_f, X_201_42, X_201_45, X_201_46, X_201_49, X_201_50, X_201_51_t, X_201_51_f, X_201_51, X_201_54, X_201_55, X_201_58, X_201_59, X_201_62, X_201_63, X_201_64_t, X_201_64_f, X_201_64, X_201_67, X_201_68, X_201_71, X_201_72, X_201_73_t, X_201_73_f, X_201_73, X_201_76, X_201_77, X_201_80, X_201_81, X_201_82, X_201_83, X_201_86, X_201_89, X_201_90, r1_63_7, pushR_some, Int.toNat_natCast, fixp_i, fixp_r, natS]
      · have gi : (fun r => if r < 4 ∧ ¬ h 70 r < 0 then (1 : Int) else 0) i = 1 := if_pos ⟨z4, z⟩
        have q := ih (i + 1) (a + 1) (by omega)
        have e : sumF (fun r => if r < 4 ∧ ¬ h 70 r < 0 then (1 : Int) else 0) (n + 1) i a = sumF (fun r => if r < 4 ∧ ¬ h 70 r < 0 then (1 : Int) else 0) n (i + 1) (a + 1) := congrArg (fun x => sumF (fun r => if r < 4 ∧ ¬ h 70 r < 0 then (1 : Int) else 0) n (i + 1) (a + x)) gi
        rw [e, ← q, X_201_4]
        simp (disch := omega) only [X_201_0, X_201_1, X_201_2, X_201_3, X_201_5, X_201_7_t, X_201_7_f, X_201_7, X_201_10, X_201_11, X_201_12, X_201_14_t, X_201_14_f, X_201_14, X_201_17, X_201_18, X_201_21, X_201_22, X_201_23_t, X_201_23_f, X_201_23, X_201_26, X_201_27, X_201_30, X_201_31, X_201_34, X_201_35, X_201_37_t, X_201_37_f, X_201_37, X_201_40, X_201_41, X_201_42_t, X_201_42_f, X_201_42, X_201_45, X_201_46, X_201_49, X_201_50, X_201_51_t, X_201_51_f, X_201_51, X_201_54, X_201_55, X_201_58, X_201_59, X_201_62, X_201_63, X_201_64_t, X_201_64_f, X_201_64, X_201_67, X_201_68, X_201_71, X_201_72, X_201_73_t, X_201_73_f, X_201_73, X_201_76, X_201_77, X_201_80, X_201_81, X_201_82, X_201_83, X_201_86, X_201_89, X_201_90, r1_63_7, pushR_some, Int.toNat_natCast, fixp_i, fixp_r, natS]
  rw [C_201]
  simp (disch := omega) only [X_201_0, X_201_1, X_201_2, X_201_3, X_201_5, X_201_7_t, X_201_7_f, X_201_7, X_201_10, X_201_11, X_201_12, X_201_14_t, X_201_14_f, X_201_14, X_201_17, X_201_18, X_201_21, X_201_22, X_201_23_t, X_201_23_f, X_201_23, X_201_26, X_201_27, X_201_30, X_201_31, X_201_34, X_201_35, X_201_37_t, X_201_37_f, X_201_37, X_201_40, X_201_41, X_201_42_t, X_201_42_f, X_201_42, X_201_45, X_201_46, X_201_49, X_201_50, X_201_51_t, X_201_51_f, X_201_51, X_201_54, X_201_55, X_201_58, X_201_59, X_201_62, X_201_63, X_201_64_t, X_201_64_f, X_201_64, X_201_67, X_201_68, X_201_71, X_201_72, X_201_73_t, X_201_73_f, X_201_73, X_201_76, X_201_77, X_201_80, X_201_81, X_201_82, X_201_83, X_201_86, X_201_89, X_201_90, fixp_i, fixp_r]
  exact L 6 0 0 rfl
theorem S3_many11 {d : Nat}  {h : AH} {Q : Option AV → AG → AH → Prop} (hd : 1 ≤ d) (HR : ∀ r, r < 3 → (h 66 r = 0 ∨ h 66 r = 1)) : call d 201 [.inr (.inr (some 63)), .inl 11] G1 h Q = Q (some (.inl (sumF (fun r => if r < 3 ∧ ¬ h 66 r = 0 then (1 : Int) else 0) 6 0 0))) G1 h := by
  obtain ⟨d, rfl, hd2⟩ := pos_of hd
  have g0 := g1_63
  have g1 := g1_66
  have L : ∀ (n i : Nat) (a : Int), i + n = 6 → wp d 201 4 [some (.inr (.inr (some 63))), some (.inl 11), some (.inl a), some (.inl (i : Int))] [] G1 h Q = Q (some (.inl (sumF (fun r => if r < 3 ∧ ¬ h 66 r = 0 then (1 : Int) else 0) n i a))) G1 h := by
    intro n
    induction n with
    | zero =>
      intro i a hi
      obtain rfl : i = 6 := by omega
      simp (disch := omega) only [X_201_4, X_201_0, X_201_1, X_201_2, X_201_3, X_201_5, X_201_7_t, X_201_7_f, X_201_7, X_201_10, X_201_11, X_201_12, X_201_14_t, X_201_14_f, X_201_14, X_201_17, X_201_18, X_201_21, X_201_22, X_201_23_t, X_201_23_f, X_201_23, X_201_26, X_201_27, X_201_30, X_201_31, X_201_34, X_201_35, X_201_37_t, X_201_37_f, X_201_37, X_201_40, X_201_41, X_201_42_t, X_201_42_f, X_201_42, X_201_45, X_201_46, X_201_49, X_201_50, X_201_51_t, X_201_51_f, X_201_51, X_201_54, X_201_55, X_201_58, X_201_59, X_201_62, X_201_63, X_201_64_t, X_201_64_f, X_201_64, X_201_67, X_201_68, X_201_71, X_201_72, X_201_73_t, X_201_73_f, X_201_73, X_201_76, X_201_77, X_201_80, X_201_81, X_201_82, X_201_83, X_201_86, X_201_89, X_201_90, sumF]
    | succ n ih =>
      intro i a hi
      have R : i < 3 → (h 66 i = 0 ∨ h 66 i = 1) := HR i
      by_cases z4 : i < 3
      case neg =>
        have gi : (fun r => if r < 3 ∧ ¬ h 66 r = 0 then (1 : Int) else 0) i = 0 := if_neg (fun q => z4 q.1)
        have q := ih (i + 1) (a + 0) (by omega)
        have e : sumF (fun r => if r < 3 ∧ ¬ h 66 r = 0 then (1 : Int) else 0) (n + 1) i a = sumF (fun r => if r < 3 ∧ ¬ h 66 r = 0 then (1 : Int) else 0) n (i + 1) (a + 0) := congrArg (fun x => sumF (fun r => if r < 3 ∧ ¬ h 66 r = 0 then (1 : Int) else 0) n (i + 1) (a + x)) gi
        rw [e, ← q, X_201_4]
        simp (disch := omega) only [X_201_0, X_201_1, X_201_2, X_201_3, X_201_5, X_201_7_t, X_201_7_f, X_201_7, X_201_10, X_201_11, X_201_12, X_201_14_t, X_201_14_f, X_201_14, X_201_17, X_201_18, X_201_21, X_201_22, X_201_23_t, X_201_23_f, X_201_23, X_201_26, X_201_27, X_201_30, X_201_31, X_201_34, X_201_35, X_201_37_t, X_201_37_f, X_201_37, X_201_40, X_201_41, X_201_42_t, X_201_42_f, X_201_42, X_201_45, X_201_46, X_201_49, X_201_50, X_201_51_t, X_201_51_f, X_201_51, X_201_54, X_201_55, X_201_58, X_201_59, X_201_62, X_201_63, X_201_64_t, X_201_64_f, X_201_64, X_201_67, X_201_68, X_201_71, X_201_72, X_201_73_t, X_201_73_f, X_201_73, X_201_76, X_201_77, X_201_80, X_201_81, X_201_82, X_201_83, X_201_86, X_201_89, X_201_90, pushR_some, Int.toNat_natCast, fixp_i, fixp_r, natS]
      replace R := R z4
      by_cases z : h 66 i = 0
      · have gi : (fun r => if r < 3 ∧ ¬ h 66 r = 0 then (1 : Int) else 0) i = 0 := if_neg (fun q => q.2 z)
        have q := ih (i + 1) (a + 0) (by omega)
        have e : sumF (fun r => if r < 3 ∧ ¬ h 66 r = 0 then (1 : Int) else 0) (n + 1) i a = sumF (fun r => if r < 3 ∧ ¬ h 66 r = 0 then (1 : Int) else 0) n (i + 1) (a + 0) := congrArg (fun x => sumF (fun r => if r < 3 ∧ ¬ h 66 r = 0 then (1 : Int) else 0) n (i + 1) (a + x)) gi
        rw [e, ← q, X_201_4]
        simp (disch := omega) only [X_201_0, X_201_1, X_201_2, X_201_3, X_201_5, X_201_7_t, X_201_7_f, X_201_7, X_201_10, X_201_11, X_201_12, X_201_14_t, X_201_14_f, X_201_14, X_201_17, X_201_18, X_201_21, X_201_22, X_201_23_t, X_201_23_f, X_201_23, X_201_26, X_201_27, X_201_30, X_201_31, X_201_34, X_201_35, X_201_37_t, X_201_37_f, X_201_37, X_201_40, X_201_41, X_201_42_t, X_201_42_f, X_201_42, X_201_45, X_201_46, X_201_49, X_201_50, X_201_51_t, X_201_51_f, X_201_51, X_201_54, X_201_55, X_201_58, X_201_59, X_201_62, X_201_63, X_201_64_t, X_201_64_f, X_201_64, X_201_67, X_201_68, X_201_71, X_201_72, X_201_73_t, X_201_73_f, X_201_73, X_201_76, X_201_77, X_201_80, X_201_81, X_201_82, X_201_83, X_201_86, X_201_89, X_201_90, r1_63_3, pushR_some, Int.toNat_natCast, fixp_i, fixp_r, natS]
      · have gi : (fun r => if r < 3 ∧ ¬ h 66 r = 0 then (1 : Int) else 0) i = 1 := if_pos ⟨z4, z⟩
        have q := ih (i + 1) (a + 1) (by omega)
        have e : sumF (fun r => if r < 3 ∧ ¬ h 66 r = 0 then (1 : Int) else 0) (n + 1) i a = sumF (fun r => if r < 3 ∧ ¬ h 66 r = 0 then (1 : Int) else 0) n (i + 1) (a + 1) := congrArg (fun x => sumF (fun r => if r < 3 ∧ ¬ h 66 r = 0 then (1 : Int) else 0) n (i + 1) (a + x)) gi
        rw [e, ← q, X_201_4]
        simp (disch := omega) only [X_201_0, X_201_1, X_201_2, X_201_3, X_201_5, X_201_7_t, X_201_7_f, X_201_7, X_201_10, X_201_11, X_201_12, X_201_14_t, X_201_14_f, X_201_14, X_201_17, X_201_18, X_201_21, X_201_22, X_201_23_t, X_201_23_f, X_201_23, X_201_26, X_201_27, X_201_30, X_201_31, X_201_34, X_201_35, X_201_37_t, X_201_37_f, X_201_37, X_201_40, X_201_41, X_201_42_t, X_201_42_f, X_201_42, X_201_45, X_201_46, X_201_49, X_201_50, X_201_51_t, X_201_51_f, X_201_51, X_201_54, X_201_55, X_201_58, X_201_59, X_201_62, X_201_63, X_201_64_t, X_201_64_f, X_201_64, X_201_67, X_201_68, X_201_71, X_201_72, X_201_73_t, X_201_73_f, X_201_73, X_201_76, X_201_77, X_201_80, X_201_81, X_201_82, X_201_83, X_201_86, X_201_89, X_201_90, r1_63_3, pushR_some, Int.toNat_natCast, fixp_i, fixp_r, natS]
  rw [C_201]
  simp (disch := omega) only [X_201_0, X_201_1, X_201_2, X_201_3, X_201_5, X_201_7_t, X_201_7_f, X_201_7, X_201_10, X_201_11, X_201_12, X_201_14_t, X_201_14_f, X_201_14, X_201_17, X_201_18, X_201_21, X_201_22, X_201_23_t, X_201_23_f, X_201_23, X_201_26, X_201_27, X_201_30, X_201_31, X_201_34, X_201_35, X_201_37_t, X_201_37_f, X_201_37, X_201_40, X_201_41, X_201_42_t, X_201_42_f, X_201_42, X_201_45, X_201_46, X_201_49, X_201_50, X_201_51_t, X_201_51_f, X_201_51, X_201_54, X_201_55, X_201_58, X_201_59, X_201_62, X_201_63, X_201_64_t, X_201_64_f, X_201_64, X_201_67, X_201_68, X_201_71, X_201_72, X_201_73_t, X_201_73_f, X_201_73, X_201_76, X_201_77, X_201_80, X_201_81, X_201_82, X_201_83, X_201_86, X_201_89, X_201_90, fixp_i, fixp_r]
  exact L 6 0 0 rfl
