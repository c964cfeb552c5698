/-! 34: what a Row's methods do; rows changed -/
theorem S_isMissing_t {d q : Nat} {h : AH} {Q : Option AV → AG → AH → Prop} (hd : 1 ≤ d) (hq : isRw q) (hn : -1 ≤ h q 2 ∧ h q 2 < 0) : call d 1 [.inr (.inr (some q))] G1 h Q = Q (some (.inl 1)) G1 h := by
  obtain ⟨d, rfl, hd2⟩ := pos_of hd
  have hs := rw_s hq
  rw [C_1]
  simp (disch := omega) only [X_1_0, X_1_1, X_1_4_t, X_1_4_f, X_1_4, X_1_7, X_1_8, X_1_11, X_1_12]
theorem S_isMissing_f {d q : Nat} {h : AH} {Q : Option AV → AG → AH → Prop} (hd : 1 ≤ d) (hq : isRw q) (hn : 0 ≤ h q 2 ∧ h q 2 ≤ 60) : call d 1 [.inr (.inr (some q))] G1 h Q = Q (some (.inl 0)) G1 h := by
  obtain ⟨d, rfl, hd2⟩ := pos_of hd
  have hs := rw_s hq
  rw [C_1]
  simp (disch := omega) only [X_1_0, X_1_1, X_1_4_t, X_1_4_f, X_1_4, X_1_7, X_1_8, X_1_11, X_1_12]
theorem S_has_t {d q : Nat} {i : Int} {h : AH} {Q : Option AV → AG → AH → Prop} (hd : 1 ≤ d) (hq : isRw q) (hi : 0 ≤ i ∧ i < h q 2 ∧ h q 2 ≤ rwL q) : call d 3 [.inr (.inr (some q)), .inl i] G1 h Q = Q (some (.inl 1)) G1 h := by
  obtain ⟨d, rfl, hd2⟩ := pos_of hd
  have hs := rw_s hq
  rw [C_3]
  simp (disch := omega) only [X_3_0, X_3_1_t, X_3_1_f, X_3_1, X_3_4, X_3_5, X_3_6, X_3_9_t, X_3_9_f, X_3_9, X_3_12, X_3_13, X_3_14, X_3_17, X_3_18_t, X_3_18_f, X_3_18, X_3_21, X_3_22, X_3_25, X_3_26, hs]
theorem S_has_f {d q : Nat} {i : Int} {h : AH} {Q : Option AV → AG → AH → Prop} (hd : 1 ≤ d) (hq : isRw q) (hb : -2147483648 ≤ i ∧ i < 2147483648) (hi : ¬ (0 ≤ i ∧ i < h q 2)) (hn : -1 ≤ h q 2 ∧ h q 2 ≤ rwL q) : call d 3 [.inr (.inr (some q)), .inl i] G1 h Q = Q (some (.inl 0)) G1 h := by
  obtain ⟨d, rfl, hd2⟩ := pos_of hd
  have hs := rw_s hq
  rw [C_3]
  by_cases h1 : 0 ≤ i
  · simp (disch := omega) only [X_3_0, X_3_1_t, X_3_1_f, X_3_1, X_3_4, X_3_5, X_3_6, X_3_9_t, X_3_9_f, X_3_9, X_3_12, X_3_13, X_3_14, X_3_17, X_3_18_t, X_3_18_f, X_3_18, X_3_21, X_3_22, X_3_25, X_3_26, hs]
  · simp (disch := omega) only [X_3_0, X_3_1_t, X_3_1_f, X_3_1, X_3_4, X_3_5, X_3_6, X_3_9_t, X_3_9_f, X_3_9, X_3_12, X_3_13, X_3_14, X_3_17, X_3_18_t, X_3_18_f, X_3_18, X_3_21, X_3_22, X_3_25, X_3_26, hs]
theorem S_hasRun_t {d q : Nat} {i n : Int} {h : AH} {Q : Option AV → AG → AH → Prop} (hd : 1 ≤ d) (hq : isRw q) (hb : (-2147483648 ≤ i ∧ i < 2147483648) ∧ 0 ≤ n ∧ n < 2147483648) (hi : 0 ≤ i ∧ i + n ≤ h q 2) (hn : 0 ≤ h q 2 ∧ h q 2 ≤ 60) : call d 4 [.inr (.inr (some q)), .inl i, .inl n] G1 h Q = Q (some (.inl 1)) G1 h := by
  obtain ⟨d, rfl, hd2⟩ := pos_of hd
  have hs := rw_s hq
  rw [C_4]
  simp (disch := omega) only [X_4_0, X_4_1_t, X_4_1_f, X_4_1, X_4_4, X_4_5_t, X_4_5_f, X_4_5, X_4_8, X_4_9, X_4_10, X_4_13_t, X_4_13_f, X_4_13, X_4_16, X_4_17, X_4_18, X_4_21, X_4_22, X_4_23_t, X_4_23_f, X_4_23, X_4_26, X_4_27, X_4_30, X_4_31, hs]
theorem S_hasRun_f {d q : Nat} {i n : Int} {h : AH} {Q : Option AV → AG → AH → Prop} (hd : 1 ≤ d) (hq : isRw q) (hb : (-2147483648 ≤ i ∧ i < 2147483648) ∧ 0 ≤ n ∧ n < 2147483648) (hi : ¬ (0 ≤ i ∧ i + n ≤ h q 2)) (hn : 0 ≤ h q 2 ∧ h q 2 ≤ 60) : call d 4 [.inr (.inr (some q)), .inl i, .inl n] G1 h Q = Q (some (.inl 0)) G1 h := by
  obtain ⟨d, rfl, hd2⟩ := pos_of hd
  have hs := rw_s hq
  rw [C_4]
  by_cases h1 : 0 ≤ i
  · by_cases h2 : i ≤ h q 2
    · simp (disch := omega) only [X_4_0, X_4_1_t, X_4_1_f, X_4_1, X_4_4, X_4_5_t, X_4_5_f, X_4_5, X_4_8, X_4_9, X_4_10, X_4_13_t, X_4_13_f, X_4_13, X_4_16, X_4_17, X_4_18, X_4_21, X_4_22, X_4_23_t, X_4_23_f, X_4_23, X_4_26, X_4_27, X_4_30, X_4_31, hs]
    · simp (disch := omega) only [X_4_0, X_4_1_t, X_4_1_f, X_4_1, X_4_4, X_4_5_t, X_4_5_f, X_4_5, X_4_8, X_4_9, X_4_10, X_4_13_t, X_4_13_f, X_4_13, X_4_16, X_4_17, X_4_18, X_4_21, X_4_22, X_4_23_t, X_4_23_f, X_4_23, X_4_26, X_4_27, X_4_30, X_4_31, hs]
  · simp (disch := omega) only [X_4_0, X_4_1_t, X_4_1_f, X_4_1, X_4_4, X_4_5_t, X_4_5_f, X_4_5, X_4_8, X_4_9, X_4_10, X_4_13_t, X_4_13_f, X_4_13, X_4_16, X_4_17, X_4_18, X_4_21, X_4_22, X_4_23_t, X_4_23_f, X_4_23, X_4_26, X_4_27, X_4_30, X_4_31, hs]
theorem S_get {d q : Nat} {i : Int} {h : AH} {Q : Option AV → AG → AH → Prop} (hd : 1 ≤ d) (hq : isRw q) (hi : 0 ≤ i ∧ i < rwL q) : call d 5 [.inr (.inr (some q)), .inl i] G1 h Q = Q (some (.inl (h (q + 1) i.toNat))) G1 h := by
  obtain ⟨d, rfl, hd2⟩ := pos_of hd
  have hs := rw_s hq
  rw [C_5]
  simp (disch := omega) only [X_5_0, X_5_1_t, X_5_1_f, X_5_1, X_5_4, X_5_5, X_5_6, X_5_9, X_5_10_t, X_5_10_f, X_5_10, X_5_13, X_5_14, X_5_17, X_5_18, X_5_19, X_5_22, X_5_23, hs]
theorem S_set {d q : Nat} {i v : Int} {h : AH} {Q : Option AV → AG → AH → Prop} (hd : 2 ≤ d) (hq : isRw q) (hi : 0 ≤ i ∧ i < h q 2 ∧ h q 2 ≤ rwL q) : call d 6 [.inr (.inr (some q)), .inl i, .inl v] G1 h Q = Q none G1 (put h (q + 1) i.toNat v) := by
  obtain ⟨d, rfl, hd2⟩ := pos_of hd
  have hs := rw_s hq
  rw [C_6]
  simp (disch := omega) only [X_6_0, X_6_1, X_6_2, X_6_5_t, X_6_5_f, X_6_5, X_6_8, X_6_9, X_6_12, X_6_13, X_6_14, X_6_15, hs, S_has_t, pushR_some]
theorem S_fill {d a n : Nat} {v : Int} {h : AH} {Q : Option AV → AG → AH → Prop} (hd : 1 ≤ d) (ha : a < 900 ∧ (shp G1 a).1 = 0 ∧ (shp G1 a).2 = n ∧ n ≤ 1000) : call d 210 [.inr (.inr (some a)), .inl v] G1 h Q = Q none G1 (setR h a (mixR n (fun _ => v) (h a))) := by
  obtain ⟨d, rfl, hd2⟩ := pos_of hd
  obtain ⟨a1, a2, a3, a4⟩ := ha
  have L : ∀ (m i : Nat), i + m = n → wp d 210 5 [some (.inr (.inr (some a))), some (.inl v), some (.inl (i : Int)), some (.inl (n : Int))] [] G1 (setR h a (mixR i (fun _ => v) (h a))) Q = Q none G1 (setR h a (mixR n (fun _ => v) (h a))) := by
    intro m
    induction m with
    | zero =>
      intro i hi
      obtain rfl : i = n := by omega
      simp (disch := omega) only [X_210_5, X_210_0, X_210_1, X_210_2, X_210_3, X_210_4, X_210_6, X_210_7_t, X_210_7_f, X_210_7, X_210_10, X_210_11, X_210_12, X_210_13, X_210_14, X_210_17, X_210_20]
    | succ m ih =>
      intro i hi
      rw [X_210_5]
      simp (disch := omega) only [X_210_0, X_210_1, X_210_2, X_210_3, X_210_4, X_210_6, X_210_7_t, X_210_7_f, X_210_7, X_210_10, X_210_11, X_210_12, X_210_13, X_210_14, X_210_17, X_210_20, Int.toNat_natCast, fixp_i, natS, put_set, setR_s, setR_2]
      rw [← ih (i + 1) (by omega), ← mix_put (f := fun _ => v)]
  rw [C_210]
  simp (disch := omega) only [X_210_0, X_210_1, X_210_2, X_210_3, X_210_4, X_210_6, X_210_7_t, X_210_7_f, X_210_7, X_210_10, X_210_11, X_210_12, X_210_13, X_210_14, X_210_17, X_210_20, fixp_i, fixp_r, a3]
  have q := L n 0 (by omega)
  rw [mix_0, setR_e] at q
  exact q
def rbg (h : AH) (q : Nat) (n : Int) : AH := put (setR h (q + 1) (mixR (rwL q) (fun _ => h q 1) (h (q + 1)))) q 2 n
theorem S_rbegin {d q : Nat} {n : Int} {h : AH} {Q : Option AV → AG → AH → Prop} (hd : 2 ≤ d) (hq : isRw q) (hn : 0 ≤ n ∧ n ≤ rwL q) : call d 2 [.inr (.inr (some q)), .inl n] G1 h Q = Q none G1 (rbg h q n) := by
  obtain ⟨d, rfl, hd2⟩ := pos_of hd
  have hs := rw_s hq
  have hf : ∀ Q, call d 210 [.inr (.inr (some (q + 1))), .inl (h q 1)] G1 h Q = Q none G1 (setR h (q + 1) (mixR (rwL q) (fun _ => h q 1) (h (q + 1)))) := fun Q => S_fill (n := rwL q) hd2 ⟨by unfold isRw at hq; omega, hs.2.1.1, hs.2.1.2, by omega⟩
  rw [C_2]
  simp (disch := omega) only [X_2_0, X_2_1_t, X_2_1_f, X_2_1, X_2_4, X_2_5, X_2_6, X_2_9, X_2_10_t, X_2_10_f, X_2_10, X_2_13, X_2_14, X_2_17, X_2_18, X_2_21, X_2_24, X_2_25, X_2_26, X_2_29, hs, hf, pushR_none]
  rfl
theorem S_sum {d q : Nat} {h : AH} {Q : Option AV → AG → AH → Prop} (hd : 2 ≤ d) (hq : isRw q) (hn : 0 ≤ h q 2 ∧ h q 2 ≤ rwL q) (hb : ∀ k : Nat, (k : Int) < h q 2 → -2147483648 ≤ h (q + 1) k ∧ h (q + 1) k < 2147483648) : call d 7 [.inr (.inr (some q))] G1 h Q = Q (some (.inr (.inl (sumF (h (q + 1)) (h q 2).toNat 0 0)))) G1 h := by
  obtain ⟨d, rfl, hd2⟩ := pos_of hd
  have hs := rw_s hq
  have L : ∀ (m i : Nat) (a : Int), ((i + m : Nat) : Int) = h q 2 → wp d 7 4 [some (.inr (.inr (some q))), some (.inr (.inl a)), none, some (.inl (i : Int))] [] G1 h Q = Q (some (.inr (.inl (sumF (h (q + 1)) m i a)))) G1 h := by
    intro m
    induction m with
    | zero =>
      intro i a hi
      simp (disch := omega) only [X_7_4, X_7_0, X_7_1, X_7_2, X_7_3, X_7_5, X_7_6, X_7_9_t, X_7_9_f, X_7_9, X_7_12, X_7_13, X_7_14, X_7_15, X_7_18, X_7_19, X_7_20, X_7_21, X_7_24, X_7_27, X_7_28, sumF]
    | succ m ih =>
      intro i a hi
      have hbi := hb i (by omega)
      rw [X_7_4]
      simp (disch := omega) only [X_7_0, X_7_1, X_7_2, X_7_3, X_7_5, X_7_6, X_7_9_t, X_7_9_f, X_7_9, X_7_12, X_7_13, X_7_14, X_7_15, X_7_18, X_7_19, X_7_20, X_7_21, X_7_24, X_7_27, X_7_28, S_get, pushR_some, Int.toNat_natCast, fixp_r, fixp_n, natS]
      rw [ih (i + 1) _ (by omega)]
      rfl
  rw [C_7]
  simp (disch := omega) only [X_7_0, X_7_1, X_7_2, X_7_3, X_7_5, X_7_6, X_7_9_t, X_7_9_f, X_7_9, X_7_12, X_7_13, X_7_14, X_7_15, X_7_18, X_7_19, X_7_20, X_7_21, X_7_24, X_7_27, X_7_28, fixp_r, fixp_n]
  exact L (h q 2).toNat 0 0 (by omega)
theorem S_allWithin {d q : Nat} {lo hi : Int} {h : AH} {Q : Option AV → AG → AH → Prop} (hd : 2 ≤ d) (hq : isRw q) (hn : 0 ≤ h q 2 ∧ h q 2 ≤ rwL q) (hb : ∀ k : Nat, (k : Int) < h q 2 → -2147483648 ≤ h (q + 1) k ∧ h (q + 1) k < 2147483648) (hl : (-2147483648 ≤ lo ∧ lo < 2147483648) ∧ (-2147483648 ≤ hi ∧ hi < 2147483648)) : call d 8 [.inr (.inr (some q)), .inl lo, .inl hi] G1 h Q = if allF (fun k => decide (lo ≤ h (q + 1) k ∧ h (q + 1) k ≤ hi)) (h q 2).toNat 0 = true then Q (some (.inl 1)) G1 h else Q (some (.inl 0)) G1 h := by
  obtain ⟨d, rfl, hd2⟩ := pos_of hd
  have hs := rw_s hq
  have L : ∀ (m i : Nat), ((i + m : Nat) : Int) = h q 2 → wp d 8 2 [some (.inr (.inr (some q))), some (.inl lo), some (.inl hi), some (.inl (i : Int))] [] G1 h Q = if allF (fun k => decide (lo ≤ h (q + 1) k ∧ h (q + 1) k ≤ hi)) m i = true then Q (some (.inl 1)) G1 h else Q (some (.inl 0)) G1 h := by
    intro m
    induction m with
    | zero =>
      intro i hi
      simp (disch := omega) only [X_8_2, X_8_0, X_8_1, X_8_3, X_8_4, X_8_7_t, X_8_7_f, X_8_7, X_8_10, X_8_11, X_8_12, X_8_15, X_8_16_t, X_8_16_f, X_8_16, X_8_19, X_8_20, X_8_21, X_8_24, X_8_25_t, X_8_25_f, X_8_25, X_8_28, X_8_29, X_8_30, X_8_33, X_8_36, X_8_37, allF, if_true]
    | succ m ih =>
      intro i hi2
      have hbi := hb i (by omega)
      have ih2 := ih (i + 1) (by omega)
      rw [X_8_2]
      simp (disch := omega) only [X_8_0, X_8_1, X_8_3, X_8_4, X_8_7_t, X_8_7_f, X_8_7, X_8_10, X_8_11, X_8_12, X_8_15, X_8_16_t, X_8_16_f, X_8_16, X_8_19, X_8_20, X_8_21, X_8_24, X_8_25_t, X_8_25_f, X_8_25, X_8_28, X_8_29, X_8_30, X_8_33, X_8_36, X_8_37, S_get, pushR_some, Int.toNat_natCast, fixp_i, natS]
      rw [ih2]
      by_cases e1 : h (q + 1) i < lo
      · have e2 : ¬ (lo ≤ h (q + 1) i ∧ h (q + 1) i ≤ hi) := by omega
        simp only [if_pos e1, allF, e2, decide_false, Bool.false_and, Bool.false_eq_true, if_false]
      · rw [if_neg e1]
        by_cases e3 : h (q + 1) i ≤ hi
        · have e2 : lo ≤ h (q + 1) i ∧ h (q + 1) i ≤ hi := by omega
          rw [if_pos e3]
          simp only [allF, e2, and_self, decide_true, Bool.true_and]
        · have e2 : ¬ (lo ≤ h (q + 1) i ∧ h (q + 1) i ≤ hi) := by omega
          simp only [if_neg e3, allF, e2, decide_false, Bool.false_and, Bool.false_eq_true, if_false]
  rw [C_8]
  simp (disch := omega) only [X_8_0, X_8_1, X_8_3, X_8_4, X_8_7_t, X_8_7_f, X_8_7, X_8_10, X_8_11, X_8_12, X_8_15, X_8_16_t, X_8_16_f, X_8_16, X_8_19, X_8_20, X_8_21, X_8_24, X_8_25_t, X_8_25_f, X_8_25, X_8_28, X_8_29, X_8_30, X_8_33, X_8_36, X_8_37, fixp_i]
  exact L (h q 2).toNat 0 (by omega)
def dgF (g : Nat → Int) : Nat → Nat → Int → Int
  | 0, _, a => a
  | n + 1, i, a => dgF g n (i + 1) (31 * a + g i)
theorem dgF_congr {g k : Nat → Int} : ∀ {n i : Nat} {a : Int}, (∀ c, i ≤ c → c < i + n → g c = k c) → dgF g n i a = dgF k n i a
  | 0, _, _, _ => rfl
  | n + 1, i, a, h => by
    simp only [dgF]
    rw [h i (Nat.le_refl _) (by omega)]
    exact dgF_congr (fun c c1 c2 => h c (by omega) (by omega))
theorem S_digestOn {d q : Nat} {x : Int} {h : AH} {Q : Option AV → AG → AH → Prop} (hd : 2 ≤ d) (hq : isRw q) (hn : -1 ≤ h q 2 ∧ h q 2 ≤ rwL q) (hb : ∀ k : Nat, (k : Int) < h q 2 → -2147483648 ≤ h (q + 1) k ∧ h (q + 1) k < 2147483648) : call d 9 [.inr (.inr (some q)), .inr (.inl x)] G1 h Q = Q (some (.inr (.inl (dgF (h (q + 1)) (h q 2).toNat 0 (31 * x + h q 2))))) G1 h := by
  obtain ⟨d, rfl, hd2⟩ := pos_of hd
  have hs := rw_s hq
  have L : ∀ (m i : Nat) (a : Int), (m = 0 ∧ h q 2 ≤ (i : Int) ∧ i ≤ 60 ∨ ((i + m : Nat) : Int) = h q 2) → wp d 9 15 [some (.inr (.inr (some q))), some (.inr (.inl x)), none, some (.inr (.inl a)), none, some (.inl (i : Int))] [] G1 h Q = Q (some (.inr (.inl (dgF (h (q + 1)) m i a)))) G1 h := by
    intro m
    induction m with
    | zero =>
      intro i a hi
      simp (disch := omega) only [X_9_15, X_9_0, X_9_3, X_9_4, X_9_5, X_9_6, X_9_9, X_9_10, X_9_11, X_9_12, X_9_13, X_9_17, X_9_18, X_9_21_t, X_9_21_f, X_9_21, X_9_24, X_9_27, X_9_28, X_9_29, X_9_30, X_9_32, X_9_35, X_9_36, X_9_37, X_9_38, X_9_41, X_9_44, X_9_45, dgF]
    | succ m ih =>
      intro i a hi
      have hbi := hb i (by omega)
      rw [X_9_15]
      simp (disch := omega) only [X_9_0, X_9_3, X_9_4, X_9_5, X_9_6, X_9_9, X_9_10, X_9_11, X_9_12, X_9_13, X_9_17, X_9_18, X_9_21_t, X_9_21_f, X_9_21, X_9_24, X_9_27, X_9_28, X_9_29, X_9_30, X_9_32, X_9_35, X_9_36, X_9_37, X_9_38, X_9_41, X_9_44, X_9_45, S_get, pushR_some, Int.toNat_natCast, fixp_r, fixp_n, natS]
      rw [ih (i + 1) _ (by omega)]
      rfl
  rw [C_9]
  simp (disch := omega) only [X_9_0, X_9_3, X_9_4, X_9_5, X_9_6, X_9_9, X_9_10, X_9_11, X_9_12, X_9_13, X_9_17, X_9_18, X_9_21_t, X_9_21_f, X_9_21, X_9_24, X_9_27, X_9_28, X_9_29, X_9_30, X_9_32, X_9_35, X_9_36, X_9_37, X_9_38, X_9_41, X_9_44, X_9_45, fixp_r, fixp_n]
  exact L (h q 2).toNat 0 _ (by omega)
/-- cells that nothing is read from before it is written -/
def scr (a : Nat) : Prop := (10 ≤ a ∧ a < 17) ∨ (19 ≤ a ∧ a < 22) ∨ (72 ≤ a ∧ a < 79)
theorem FND_k0 {n : Nat} {h h' : AH} (h1 : h' 0 9 = h 0 9) (h2 : h' 63 9 = h 63 9) (h3 : h' 18 = h 18) (h4 : h' 71 = h 71) (H : FND n h) : FND n h' := by
  unfold FND
  rw [h1, h2, h3, h4]
  exact H
theorem scr_no {a : Nat} (h : ¬ (10 ≤ a ∧ a < 17) ∧ ¬ (19 ≤ a ∧ a < 22) ∧ ¬ (72 ≤ a ∧ a < 79)) : ¬ scr a := fun z => by unfold scr at z; omega
theorem INV_row {n r : Nat} {h h' : AH} (hr : r < 6) (H : INV n h) (e : ∀ a, ¬ scr a → ¬ a = 22 + 2 * r → ¬ a = 23 + 2 * r → ¬ a = 67 → ¬ a = 68 → h' a = h a) (e74 : ∀ s, 98 ≤ s → h' 74 s = 0) (e68 : ∀ s, s < 6 → ¬ s = r → h' 68 s = h 68 s) (e67 : ∀ s, (s < 40 * r ∨ 40 * r + 40 ≤ s) → h' 67 s = h 67 s) (HR : RowR h' r) : INV n h' := by
  obtain ⟨a1, a2, a3, a4, a5, a6, a7, a8⟩ := H
  have q : ∀ a, (¬ (10 ≤ a ∧ a < 17) ∧ ¬ (19 ≤ a ∧ a < 22) ∧ ¬ (72 ≤ a ∧ a < 79)) ∧ ¬ (22 ≤ a ∧ a < 34) ∧ ¬ a = 67 ∧ ¬ a = 68 → h' a = h a := fun a ha => e a (scr_no ha.1) (by omega) (by omega) (by omega) (by omega)
  refine ⟨by rw [q _ (by omega)]; exact a1, e74, fun s hs => ?_, fun t ht => TxtR_k ht (fun a ha => q a (by omega)) (q _ (by omega)) (q _ (by omega)) (a4 t ht), LIV_k (fun a ha => q a (by omega)) (by rw [q _ (by omega)]) (q _ (by omega)) a5, fun k hk => KPT_k hk (fun a ha => q a (by omega)) (by rw [q _ (by omega)]) (q _ (by omega)) (q _ (by omega)) (a6 k hk), FND_k0 (by rw [q _ (by omega)]) (by rw [q _ (by omega)]) (q _ (by omega)) (q _ (by omega)) a7, ASK_k (fun k hk => by rw [q _ (by omega)]) (fun k hk => by rw [q _ (by omega)]) a8⟩
  by_cases z : s = r
  · subst z; exact HR
  · have b := a3 s hs
    unfold RowR at b ⊢
    rw [e (22 + 2 * s) (scr_no (by omega)) (by omega) (by omega) (by omega) (by omega), e (23 + 2 * s) (scr_no (by omega)) (by omega) (by omega) (by omega) (by omega), e68 s hs z]
    refine ⟨b.1, b.2.1, b.2.2.1, b.2.2.2.1, fun k hk => ?_⟩
    rw [e67 (40 * s + k) (by omega)]
    exact b.2.2.2.2 k hk
theorem INV_scr {n : Nat} {h h' : AH} (H : INV n h) (e : ∀ a, ¬ scr a → h' a = h a) (e74 : ∀ s, 98 ≤ s → h' 74 s = 0) : INV n h' := by
  refine INV_row (r := 0) (by omega) H (fun a ha _ _ _ _ => e a ha) e74 (fun s _ _ => by rw [e 68 (scr_no (by omega))]) (fun s _ => by rw [e 67 (scr_no (by omega))]) ?_
  exact RowR_k (by omega) (fun a ha => e a (scr_no (by omega))) (e 67 (scr_no (by omega))) (e 68 (scr_no (by omega))) (H.2.2.1 0 (by omega))
theorem INV_txt {n r : Nat} {h h' : AH} (hr : r < 4) (H : INV n h) (e : ∀ a, ¬ a = 34 + 2 * r → ¬ a = 35 + 2 * r → ¬ a = 69 → ¬ a = 70 → h' a = h a) (e70 : ∀ s, s < 4 → ¬ s = r → h' 70 s = h 70 s) (e69 : ∀ s, (s < 60 * r ∨ 60 * r + 60 ≤ s) → h' 69 s = h 69 s) (HR : TxtR h' r) : INV n h' := by
  obtain ⟨a1, a2, a3, a4, a5, a6, a7, a8⟩ := H
  have q : ∀ a, ¬ (34 ≤ a ∧ a < 42) ∧ ¬ a = 69 ∧ ¬ a = 70 → h' a = h a := fun a ha => e a (by omega) (by omega) (by omega) (by omega)
  refine ⟨by rw [q _ (by omega)]; exact a1, by rw [q _ (by omega)]; exact a2, fun s hs => RowR_k hs (fun a ha => q a (by omega)) (q _ (by omega)) (q _ (by omega)) (a3 s hs), fun s hs => ?_, LIV_k (fun a ha => q a (by omega)) (by rw [q _ (by omega)]) (q _ (by omega)) a5, fun k hk => KPT_k hk (fun a ha => q a (by omega)) (by rw [q _ (by omega)]) (q _ (by omega)) (q _ (by omega)) (a6 k hk), FND_k0 (by rw [q _ (by omega)]) (by rw [q _ (by omega)]) (q _ (by omega)) (q _ (by omega)) a7, ASK_k (fun k hk => by rw [q _ (by omega)]) (fun k hk => by rw [q _ (by omega)]) a8⟩
  by_cases z : s = r
  · subst z; exact HR
  · have b := a4 s hs
    unfold TxtR at b ⊢
    rw [e (34 + 2 * s) (by omega) (by omega) (by omega) (by omega), e (35 + 2 * s) (by omega) (by omega) (by omega) (by omega), e70 s hs z]
    refine ⟨b.1, b.2.1, b.2.2.1, b.2.2.2.1, fun k hk => ?_⟩
    rw [e69 (60 * s + k) (by omega)]
    exact b.2.2.2.2 k hk
theorem INV_toy {n : Nat} {h h' : AH} (H : INV n h) (e : ∀ a, ¬ scr a → ¬ (3 ≤ a ∧ a < 10) → ¬ (42 ≤ a ∧ a < 67) → h' a = h a) (e63 : ∀ k, ¬ k = 1 → h' 63 k = h 63 k) (e74 : ∀ s, 98 ≤ s → h' 74 s = 0) (HL : LIV h') (HK : ∀ k, k < 3 → KPT h' k) : INV n h' := by
  obtain ⟨a1, a2, a3, a4, a5, a6, a7, a8⟩ := H
  have q : ∀ a, (¬ (10 ≤ a ∧ a < 17) ∧ ¬ (19 ≤ a ∧ a < 22) ∧ ¬ (72 ≤ a ∧ a < 79)) ∧ ¬ (3 ≤ a ∧ a < 10) ∧ ¬ (42 ≤ a ∧ a < 67) → h' a = h a := fun a ha => e a (scr_no ha.1) (by omega) (by omega)
  exact ⟨by rw [q _ (by omega)]; exact a1, e74, fun s hs => RowR_k hs (fun a ha => q a (by omega)) (q _ (by omega)) (q _ (by omega)) (a3 s hs), fun t ht => TxtR_k ht (fun a ha => q a (by omega)) (q _ (by omega)) (q _ (by omega)) (a4 t ht), HL, HK, FND_k0 (by rw [q _ (by omega)]) (e63 9 (by omega)) (q _ (by omega)) (q _ (by omega)) a7, ASK_k (fun k hk => by rw [q _ (by omega)]) (fun k hk => e63 k (by omega)) a8⟩
