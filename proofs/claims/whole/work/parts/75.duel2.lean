/-! 75: by turns, the reference -/
def hS (h : AH) (F V C B : TF) : AH := setR (setR (setR (setR h 74 F) 76 V) 77 C) 78 B
theorem hS_74 {h : AH} {F V C B : TF} : hS h F V C B 74 = F := by unfold hS; rw [setR_n (by omega), setR_n (by omega), setR_n (by omega), setR_s]
theorem hS_76 {h : AH} {F V C B : TF} : hS h F V C B 76 = V := by unfold hS; rw [setR_n (by omega), setR_n (by omega), setR_s]
theorem hS_77 {h : AH} {F V C B : TF} : hS h F V C B 77 = C := by unfold hS; rw [setR_n (by omega), setR_s]
theorem hS_78 {h : AH} {F V C B : TF} : hS h F V C B 78 = B := by unfold hS; rw [setR_s]
theorem hS_o {h : AH} {F V C B : TF} {a : Nat} (h1 : ¬ a = 74) (h2 : ¬ a = 76) (h3 : ¬ a = 77) (h4 : ¬ a = 78) : hS h F V C B a = h a := by unfold hS; rw [setR_n h4, setR_n h3, setR_n h2, setR_n h1]
theorem hS_s74 {h : AH} {F V C B F' : TF} : setR (hS h F V C B) 74 F' = hS h F' V C B := by
  funext a
  unfold hS setR
  (repeat' split) <;> first | rfl | (exfalso; omega)
theorem hS_s76 {h : AH} {F V C B F' : TF} : setR (hS h F V C B) 76 F' = hS h F F' C B := by
  funext a
  unfold hS setR
  (repeat' split) <;> first | rfl | (exfalso; omega)
theorem hS_s77 {h : AH} {F V C B F' : TF} : setR (hS h F V C B) 77 F' = hS h F V F' B := by
  funext a
  unfold hS setR
  (repeat' split) <;> first | rfl | (exfalso; omega)
theorem hS_s78 {h : AH} {F V C B F' : TF} : setR (hS h F V C B) 78 F' = hS h F V C F' := by
  funext a
  unfold hS setR
  (repeat' split) <;> first | rfl | (exfalso; omega)
theorem hS_p74 {h : AH} {F V C B : TF} {k : Nat} {v : Int} : put (hS h F V C B) 74 k v = hS h (putR F k v) V C B := by rw [put_set, hS_s74, hS_74]
theorem hS_p76 {h : AH} {F V C B : TF} {k : Nat} {v : Int} : put (hS h F V C B) 76 k v = hS h F (putR V k v) C B := by rw [put_set, hS_s76, hS_76]
theorem hS_p77 {h : AH} {F V C B : TF} {k : Nat} {v : Int} : put (hS h F V C B) 77 k v = hS h F V (putR C k v) B := by rw [put_set, hS_s77, hS_77]
theorem hS_p78 {h : AH} {F V C B : TF} {k : Nat} {v : Int} : put (hS h F V C B) 78 k v = hS h F V C (putR B k v) := by rw [put_set, hS_s78, hS_78]
theorem hS_e {h : AH} : hS h (h 74) (h 76) (h 77) (h 78) = h := by
  funext a
  unfold hS setR
  (repeat' split) <;> first | rfl | (subst_vars; rfl)
theorem S3_from {d l : Nat} {h : AH} {F V C B : TF} {Q : Option AV → AG → AH → Prop} (hd : 1 ≤ d) (hl : l < 7) : call d 185 [.inr (.inr (some 63)), .inl (l : Int)] G1 (hS h F V C B) Q = Q none G1 (hS h (mixR 98 (fun s => V (98 * l + s)) F) V C B) := by
  obtain ⟨d, rfl, hd2⟩ := pos_of hd
  have g0 := g1_63
  have g74 := g1_74
  have g76 := g1_76
  have L : ∀ (m i : Nat), i + m = 98 → wp d 185 2 [some (.inr (.inr (some 63))), some (.inl (l : Int)), some (.inl (i : Int))] [] G1 (hS h (mixR i (fun s => V (98 * l + s)) F) V C B) Q = Q none G1 (hS h (mixR 98 (fun s => V (98 * l + s)) F) V C B) := by
    intro m
    induction m with
    | zero =>
      intro i hi
      obtain rfl : i = 98 := by omega
      simp (disch := omega) only [X_185_2, X_185_0, X_185_1, X_185_3, X_185_5_t, X_185_5_f, X_185_5, X_185_8, X_185_9, X_185_12, X_185_13, X_185_14, X_185_17, X_185_19, X_185_20, X_185_21, X_185_22, X_185_23, X_185_24, X_185_25, X_185_28, X_185_31]
    | succ m ih =>
      intro i hi
      rw [← ih (i + 1) (by omega), ← mix_put (f := fun s => V (98 * l + s)), X_185_2]
      simp (disch := omega) only [X_185_0, X_185_1, X_185_3, X_185_5_t, X_185_5_f, X_185_5, X_185_8, X_185_9, X_185_12, X_185_13, X_185_14, X_185_17, X_185_19, X_185_20, X_185_21, X_185_22, X_185_23, X_185_24, X_185_25, X_185_28, X_185_31, r1_63_15, r1_63_17, tn98, hS_76, hS_p74, Int.toNat_natCast, fixp_i, natS]
  rw [C_185]
  simp (disch := omega) only [X_185_0, X_185_1, X_185_3, X_185_5_t, X_185_5_f, X_185_5, X_185_8, X_185_9, X_185_12, X_185_13, X_185_14, X_185_17, X_185_19, X_185_20, X_185_21, X_185_22, X_185_23, X_185_24, X_185_25, X_185_28, X_185_31, fixp_i]
  have q := L 98 0 (by omega)
  rw [mix_0] at q
  exact q
theorem S3_to {d l : Nat} {h : AH} {F V C B : TF} {Q : Option AV → AG → AH → Prop} (hd : 1 ≤ d) (hl : l < 7) : call d 186 [.inr (.inr (some 63)), .inl (l : Int)] G1 (hS h F V C B) Q = Q none G1 (hS h F (blk V (98 * l) 98 F) (putR C l (-1)) (putR B l (ini0 (decide (l % 2 = 0))))) := by
  obtain ⟨d, rfl, hd2⟩ := pos_of hd
  have g0 := g1_63
  have g74 := g1_74
  have g76 := g1_76
  have g77 := g1_77
  have g78 := g1_78
  have L : ∀ (m i : Nat), i + m = 98 → wp d 186 2 [some (.inr (.inr (some 63))), some (.inl (l : Int)), some (.inl (i : Int))] [] G1 (hS h F (blk V (98 * l) i F) C B) Q = Q none G1 (hS h F (blk V (98 * l) 98 F) (putR C l (-1)) (putR B l (ini0 (decide (l % 2 = 0))))) := by
    intro m
    induction m with
    | zero =>
      intro i hi
      obtain rfl : i = 98 := by omega
      rw [X_186_2]
      by_cases z : l % 2 = 0
      · rw [decide_eq_true z]
        simp (disch := omega) only [X_186_0, X_186_1, X_186_3, X_186_5_t, X_186_5_f, X_186_5, X_186_8, X_186_9, X_186_12, X_186_14, X_186_15, X_186_16, X_186_17, X_186_18, X_186_19, X_186_22, X_186_23, X_186_24, X_186_25, X_186_28, X_186_31, X_186_32, X_186_35, X_186_36, X_186_37, X_186_38, X_186_39, X_186_42, X_186_43, X_186_44, X_186_45, X_186_46_t, X_186_46_f, X_186_46, X_186_49, X_186_51, X_186_54, X_186_56, X_186_57, r1_63_18, r1_63_19, hS_p77, hS_p78, Int.toNat_natCast]
        rfl
      · rw [decide_eq_false z]
        simp (disch := omega) only [X_186_0, X_186_1, X_186_3, X_186_5_t, X_186_5_f, X_186_5, X_186_8, X_186_9, X_186_12, X_186_14, X_186_15, X_186_16, X_186_17, X_186_18, X_186_19, X_186_22, X_186_23, X_186_24, X_186_25, X_186_28, X_186_31, X_186_32, X_186_35, X_186_36, X_186_37, X_186_38, X_186_39, X_186_42, X_186_43, X_186_44, X_186_45, X_186_46_t, X_186_46_f, X_186_46, X_186_49, X_186_51, X_186_54, X_186_56, X_186_57, r1_63_18, r1_63_19, hS_p77, hS_p78, Int.toNat_natCast]
        rfl
    | succ m ih =>
      intro i hi
      rw [← ih (i + 1) (by omega), ← blk_put (f := F), X_186_2]
      simp (disch := omega) only [X_186_0, X_186_1, X_186_3, X_186_5_t, X_186_5_f, X_186_5, X_186_8, X_186_9, X_186_12, X_186_14, X_186_15, X_186_16, X_186_17, X_186_18, X_186_19, X_186_22, X_186_23, X_186_24, X_186_25, X_186_28, X_186_31, X_186_32, X_186_35, X_186_36, X_186_37, X_186_38, X_186_39, X_186_42, X_186_43, X_186_44, X_186_45, X_186_46_t, X_186_46_f, X_186_46, X_186_49, X_186_51, X_186_54, X_186_56, X_186_57, r1_63_15, r1_63_17, tn98, hS_74, hS_p76, Int.toNat_natCast, fixp_i, natS]
  rw [C_186]
  simp (disch := omega) only [X_186_0, X_186_1, X_186_3, X_186_5_t, X_186_5_f, X_186_5, X_186_8, X_186_9, X_186_12, X_186_14, X_186_15, X_186_16, X_186_17, X_186_18, X_186_19, X_186_22, X_186_23, X_186_24, X_186_25, X_186_28, X_186_31, X_186_32, X_186_35, X_186_36, X_186_37, X_186_38, X_186_39, X_186_42, X_186_43, X_186_44, X_186_45, X_186_46_t, X_186_46_f, X_186_46, X_186_49, X_186_51, X_186_54, X_186_56, X_186_57, fixp_i]
  have q := L 98 0 (by omega)
  rw [blk_0] at q
  exact q
theorem S3_merge {d l : Nat} {v : Int} {h : AH} {F V C B : TF} {Q : Option AV → AG → AH → Prop} (hd : 1 ≤ d) (hl : l < 7) (hv : -1000000 ≤ v ∧ v ≤ 1000000) (hB : -1000000 ≤ B l ∧ B l ≤ 1000000) : call d 187 [.inr (.inr (some 63)), .inl (l : Int), .inl v] G1 (hS h F V C B) Q = Q none G1 (hS h F V C (putR B l (stp (decide (l % 2 = 0)) (B l) v))) := by
  obtain ⟨d, rfl, hd2⟩ := pos_of hd
  have g0 := g1_63
  have g78 := g1_78
  rw [C_187]
  by_cases z : l % 2 = 0
  · rw [decide_eq_true z]
    by_cases y : B l < v
    · simp (disch := omega) only [X_187_0, X_187_1, X_187_2, X_187_3_t, X_187_3_f, X_187_3, X_187_6, X_187_7, X_187_8, X_187_11, X_187_12, X_187_13_t, X_187_13_f, X_187_13, X_187_16, X_187_17, X_187_20, X_187_21, X_187_24, X_187_25, X_187_26, X_187_29, X_187_30, X_187_31_t, X_187_31_f, X_187_31, X_187_34, X_187_35, X_187_38, X_187_39, X_187_40, X_187_41, X_187_44, X_187_45, X_187_46_t, X_187_46_f, X_187_46, X_187_49, X_187_50, X_187_53, X_187_54, X_187_57, X_187_58, X_187_59, X_187_60, r1_63_19, hS_78, hS_p78, Int.toNat_natCast, fixp_i, stp, if_pos y]
    · simp (disch := omega) only [X_187_0, X_187_1, X_187_2, X_187_3_t, X_187_3_f, X_187_3, X_187_6, X_187_7, X_187_8, X_187_11, X_187_12, X_187_13_t, X_187_13_f, X_187_13, X_187_16, X_187_17, X_187_20, X_187_21, X_187_24, X_187_25, X_187_26, X_187_29, X_187_30, X_187_31_t, X_187_31_f, X_187_31, X_187_34, X_187_35, X_187_38, X_187_39, X_187_40, X_187_41, X_187_44, X_187_45, X_187_46_t, X_187_46_f, X_187_46, X_187_49, X_187_50, X_187_53, X_187_54, X_187_57, X_187_58, X_187_59, X_187_60, r1_63_19, hS_78, hS_p78, Int.toNat_natCast, fixp_i, stp, if_neg y]
  · rw [decide_eq_false z]
    by_cases y : v < B l
    · simp (disch := omega) only [X_187_0, X_187_1, X_187_2, X_187_3_t, X_187_3_f, X_187_3, X_187_6, X_187_7, X_187_8, X_187_11, X_187_12, X_187_13_t, X_187_13_f, X_187_13, X_187_16, X_187_17, X_187_20, X_187_21, X_187_24, X_187_25, X_187_26, X_187_29, X_187_30, X_187_31_t, X_187_31_f, X_187_31, X_187_34, X_187_35, X_187_38, X_187_39, X_187_40, X_187_41, X_187_44, X_187_45, X_187_46_t, X_187_46_f, X_187_46, X_187_49, X_187_50, X_187_53, X_187_54, X_187_57, X_187_58, X_187_59, X_187_60, r1_63_19, hS_78, hS_p78, Int.toNat_natCast, fixp_i, stp, if_pos y]
    · simp (disch := omega) only [X_187_0, X_187_1, X_187_2, X_187_3_t, X_187_3_f, X_187_3, X_187_6, X_187_7, X_187_8, X_187_11, X_187_12, X_187_13_t, X_187_13_f, X_187_13, X_187_16, X_187_17, X_187_20, X_187_21, X_187_24, X_187_25, X_187_26, X_187_29, X_187_30, X_187_31_t, X_187_31_f, X_187_31, X_187_34, X_187_35, X_187_38, X_187_39, X_187_40, X_187_41, X_187_44, X_187_45, X_187_46_t, X_187_46_f, X_187_46, X_187_49, X_187_50, X_187_53, X_187_54, X_187_57, X_187_58, X_187_59, X_187_60, r1_63_19, hS_78, hS_p78, Int.toNat_natCast, fixp_i, stp, if_neg y]
theorem S3_sides {d : Nat} {N : Int} {h : AH} {f : TF} {Q : Option AV → AG → AH → Prop} (hd : 4 ≤ d) (h74 : h 74 = f) (hf : tyOk f N) (hN : N ≤ 900000) : call d 184 [.inr (.inr (some 63))] G1 h Q = Q (some (.inl (ldF f))) G1 h := by
  obtain ⟨d, rfl, hd2⟩ := pos_of hd
  have g0 := g1_63
  have L : ∀ (m i : Nat) (a : Int), i + m = 8 → 0 < i → wp d 184 4 [some (.inr (.inr (some 63))), some (.inl a), some (.inl (i : Int))] [] G1 h Q = Q (some (.inl (sumF (fun k => if k = 4 then 0 else shF f k - shF f (rcN 1 k)) m i a))) G1 h := by
    intro m
    induction m with
    | zero =>
      intro i a hi _
      obtain rfl : i = 8 := by omega
      simp (disch := omega) only [X_184_4, X_184_0, X_184_1, X_184_2, X_184_3, X_184_5, X_184_7_t, X_184_7_f, X_184_7, X_184_10, X_184_11, X_184_12, X_184_13_t, X_184_13_f, X_184_13, X_184_16, X_184_17, X_184_20, X_184_21, X_184_24, X_184_25, X_184_28, X_184_29, X_184_32, X_184_33, X_184_34, X_184_37, X_184_40, X_184_41, X_184_42, X_184_43, X_184_46, X_184_49, X_184_50, sumF]
    | succ m ih =>
      intro i a hi i0
      have ih2 := fun a => ih (i + 1) a (by omega) (by omega)
      by_cases z : i = 4
      · have e : sumF (fun k => if k = 4 then 0 else shF f k - shF f (rcN 1 k)) (m + 1) i a = sumF (fun k => if k = 4 then 0 else shF f k - shF f (rcN 1 k)) m (i + 1) (a + 0) := by
          conv => lhs; unfold sumF; dsimp only; rw [if_pos z]
        rw [e, ← ih2]
        conv => lhs; rw [X_184_4]
        conv => lhs; simp (disch := omega) only [X_184_0, X_184_1, X_184_2, X_184_3, X_184_5, X_184_7_t, X_184_7_f, X_184_7, X_184_10, X_184_11, X_184_12, X_184_13_t, X_184_13_f, X_184_13, X_184_16, X_184_17, X_184_20, X_184_21, X_184_24, X_184_25, X_184_28, X_184_29, X_184_32, X_184_33, X_184_34, X_184_37, X_184_40, X_184_41, X_184_42, X_184_43, X_184_46, X_184_49, X_184_50, fixp_r, fixp_i, natS]
      · have e : sumF (fun k => if k = 4 then 0 else shF f k - shF f (rcN 1 k)) (m + 1) i a = sumF (fun k => if k = 4 then 0 else shF f k - shF f (rcN 1 k)) m (i + 1) (a + (shF f i - shF f (rcN 1 i))) := by
          conv => lhs; unfold sumF; dsimp only; rw [if_neg z]
        have rl := rcN_lt 1 (by omega) i (by omega)
        have cS : ∀ c : Nat, c < 14 → ∀ Q, call d 143 [.inr (.inr (some 74)), .inl (c : Int)] G1 h Q = Q (some (.inl (shF f c))) G1 h := fun c hc Q => by
          rw [S3_showsIn (N := N) hd2 (Or.inr rfl) hc (by rw [h74]; exact hf) hN, h74]
        have c1 := cS i (by omega)
        have c2 := cS (rcN 1 i) rl
        have cR : ∀ Q, call d 138 [.inl 1, .inl (i : Int)] G1 h Q = Q (some (.inl (rcN 1 i : Int))) G1 h := fun Q => by
          have q := S3_ringCell (d := d) (ring := ((1 : Nat) : Int)) (k := (i : Int)) (G := G1) (h := h) (Q := Q) (by omega) (Or.inr rfl) (by omega)
          rw [rc_m] at q
          exact q
        rw [e, ← ih2]
        conv => lhs; rw [X_184_4]
        conv => lhs; simp (disch := omega) only [X_184_0, X_184_1, X_184_2, X_184_3, X_184_5, X_184_7_t, X_184_7_f, X_184_7, X_184_10, X_184_11, X_184_12, X_184_13_t, X_184_13_f, X_184_13, X_184_16, X_184_17, X_184_20, X_184_21, X_184_24, X_184_25, X_184_28, X_184_29, X_184_32, X_184_33, X_184_34, X_184_37, X_184_40, X_184_41, X_184_42, X_184_43, X_184_46, X_184_49, X_184_50, r1_63_15, c1, c2, cR, pushR_some, fixp_r, fixp_i, natS]
  rw [C_184]
  simp (disch := omega) only [X_184_0, X_184_1, X_184_2, X_184_3, X_184_5, X_184_7_t, X_184_7_f, X_184_7, X_184_10, X_184_11, X_184_12, X_184_13_t, X_184_13_f, X_184_13, X_184_16, X_184_17, X_184_20, X_184_21, X_184_24, X_184_25, X_184_28, X_184_29, X_184_32, X_184_33, X_184_34, X_184_37, X_184_40, X_184_41, X_184_42, X_184_43, X_184_46, X_184_49, X_184_50, fixp_i, fixp_r]
  have q := L 7 1 0 (by omega) (by omega)
  have e : sumF (fun k => if k = 4 then 0 else shF f k - shF f (rcN 1 k)) 7 1 0 = ldF f := by
    have e1 : sumF (fun k => if k = 4 then 0 else shF f k - shF f (rcN 1 k)) 7 1 0 = 0 + (shF f 1 - shF f 8) + (shF f 2 - shF f 9) + (shF f 3 - shF f 10) + 0 + (shF f 5 - shF f 11) + (shF f 6 - shF f 12) + (shF f 7 - shF f 13) := rfl
    rw [e1]
    unfold ldF
    omega
  rw [e] at q
  exact q
def mj (W : Bool) (D : TF → Int) (f : TF) : Nat → Nat → Int → Int
  | 0, _, b => b
  | n + 1, j, b => mj W D f n (j + 1) (if j = 4 then stp W b (D f) else opt W D f b j)
theorem mj_mm {k : Nat} {f : TF} : mj (decide ((k + 1) % 2 = 0)) (mm k) f 5 0 (ini0 (decide ((k + 1) % 2 = 0))) = mm (k + 1) f := rfl
def CHD (d n k : Nat) (h : AH) : Prop := ∀ (l : Nat) (g V C B : TF) (N : Int), l + k + 1 = 2 * n → tyOk g N → N + (k : Int) ≤ 900000 → (∀ s, 98 ≤ s → g s = 0) → -1000000 ≤ B l ∧ B l ≤ 1000000 → ∃ (F' V' C' B' : TF) (l3 : Option AV), (∀ s, 98 ≤ s → F' s = 0) ∧ (∀ s, s < 98 * (l + 1) → V' s = V s) ∧ (∀ i, i ≤ l → C' i = C i) ∧ (∀ i, i < l → B' i = B i) ∧ B' l = stp (decide (l % 2 = 0)) (B l) (mm k g) ∧ ∀ Q, wp d 188 149 [some (.inr (.inr (some 63))), some (.inl (n : Int)), some (.inl (l : Int)), some (.inl 1)] [] G1 (hS h g V C B) Q = wp d 188 48 [some (.inr (.inr (some 63))), some (.inl (n : Int)), some (.inl (l : Int)), l3] [] G1 (hS h F' V' C' B') Q
def DUE (d n k : Nat) (h : AH) : Prop := ∀ (l : Nat) (F V C B f : TF) (N : Int) (l3 : Option AV), l + k = 2 * n → tyOk f N → N + (k : Int) ≤ 900000 → (∀ s, 98 ≤ s → f s = 0) → (∀ s, 98 ≤ s → F s = 0) → (∀ s, s < 98 → V (98 * l + s) = f s) → C l = -1 → B l = ini0 (decide (l % 2 = 0)) → ∃ (F' V' C' B' : TF) (l3' : Option AV), (∀ s, 98 ≤ s → F' s = 0) ∧ (∀ s, s < 98 * (l + 1) → V' s = V s) ∧ (∀ i, i < l → C' i = C i) ∧ C' l = 4 ∧ (∀ i, i < l → B' i = B i) ∧ B' l = mm k f ∧ ∀ Q, wp d 188 48 [some (.inr (.inr (some 63))), some (.inl (n : Int)), some (.inl (l : Int)), l3] [] G1 (hS h F V C B) Q = wp d 188 48 [some (.inr (.inr (some 63))), some (.inl (n : Int)), some (.inl (l : Int)), l3'] [] G1 (hS h F' V' C' B') Q
theorem CHD_0 {d n : Nat} {h : AH} (hd : 4 ≤ d) (hn : n ≤ 3) : CHD d n 0 h := by
  intro l g V C B N hl hg hN hz hB
  have g0 := g1_63
  have lb := ldF_b hg (by omega)
  have cS : ∀ Q, call d 184 [.inr (.inr (some 63))] G1 (hS h g V C B) Q = Q (some (.inl (ldF g))) G1 (hS h g V C B) := fun Q => S3_sides hd hS_74 hg (by omega)
  have cM : ∀ Q, call d 187 [.inr (.inr (some 63)), .inl (l : Int), .inl (ldF g)] G1 (hS h g V C B) Q = _ := fun Q => S3_merge (by omega) (by omega) (by omega) hB
  refine ⟨g, V, C, putR B l (stp (decide (l % 2 = 0)) (B l) (ldF g)), some (.inl 1), hz, fun _ _ => rfl, fun _ _ => rfl, fun i hi => putR_n (by omega), putR_s, fun Q => ?_⟩
  conv => lhs; simp (disch := omega) only [X_188_0, X_188_1, X_188_4_t, X_188_4_f, X_188_4, X_188_7, X_188_9, X_188_10, X_188_11, X_188_12, X_188_13, X_188_16, X_188_19_t, X_188_19_f, X_188_19, X_188_22, X_188_23, X_188_24, X_188_25, X_188_26, X_188_27, X_188_30, X_188_31, X_188_32, X_188_35, X_188_36_t, X_188_36_f, X_188_36, X_188_39, X_188_40, X_188_41, X_188_44, X_188_47, X_188_49_t, X_188_49_f, X_188_49, X_188_52, X_188_53, X_188_56, X_188_57, X_188_58, X_188_59, X_188_60, X_188_61, X_188_62, X_188_63, X_188_66, X_188_67, X_188_68, X_188_69_t, X_188_69_f, X_188_69, X_188_72, X_188_75, X_188_76_t, X_188_76_f, X_188_76, X_188_79, X_188_80, X_188_81, X_188_82, X_188_85, X_188_86, X_188_87, X_188_88, X_188_89, X_188_92, X_188_95, X_188_96, X_188_97, X_188_100, X_188_101, X_188_104, X_188_105, X_188_106, X_188_107_t, X_188_107_f, X_188_107, X_188_110, X_188_111, X_188_114, X_188_115, X_188_118, X_188_119, X_188_120, X_188_123_t, X_188_123_f, X_188_123, X_188_126, X_188_127, X_188_130, X_188_131, X_188_132, X_188_133_t, X_188_133_f, X_188_133, X_188_136, X_188_137, X_188_140, X_188_141, X_188_144, X_188_145, X_188_146, X_188_149, X_188_150, X_188_151, X_188_152, X_188_153, X_188_154, X_188_155_t, X_188_155_f, X_188_155, X_188_158, X_188_159, X_188_160, X_188_161, X_188_164, X_188_167, X_188_170, X_188_173, X_188_174, X_188_175, X_188_178, X_188_181, X_188_182, X_188_183, X_188_186, X_188_187, X_188_188, X_188_191, cS, cM, pushR_some, pushR_none]
theorem CHD_s {d n k : Nat} {h : AH} (hd : 4 ≤ d) (hn : n ≤ 3) (ih : DUE d n (k + 1) h) : CHD d n (k + 1) h := by
  intro l g V C B N hl hg hN hz hB
  have g0 := g1_63
  have g77 := g1_77
  have g78 := g1_78
  have cT : ∀ Q, call d 186 [.inr (.inr (some 63)), .inl ((l + 1 : Nat) : Int)] G1 (hS h g V C B) Q = _ := fun Q => S3_to (by omega) (by omega)
  obtain ⟨F', V', C', B', l3', a1, a2, a3, a4, a5, a6, a7⟩ := ih (l + 1) g (blk V (98 * (l + 1)) 98 g) (putR C (l + 1) (-1)) (putR B (l + 1) (ini0 (decide ((l + 1) % 2 = 0)))) g N (some (.inl 1)) (by omega) hg hN hz hz (fun s hs => blk_in hs) putR_s putR_s
  have bm := mm_b (k := k + 1) hg hN
  have bl : B' l = B l := by rw [a5 l (by omega), putR_n (by omega)]
  have e1 : ((l + 1 : Nat) : Int) + -1 = (l : Int) := by omega
  have e5 : (4 : Int) + 1 = 5 := rfl
  have cM : ∀ Q, call d 187 [.inr (.inr (some 63)), .inl (l : Int), .inl (mm (k + 1) g)] G1 (hS h F' V' (putR C' (l + 1) 5) B') Q = _ := fun Q => S3_merge (by omega) (by omega) (by omega) (by rw [bl]; exact hB)
  refine ⟨F', V', putR C' (l + 1) 5, putR B' l (stp (decide (l % 2 = 0)) (B' l) (mm (k + 1) g)), l3', a1, fun s hs => by rw [a2 s (by omega), blk_out (by omega)], fun i hi => by rw [putR_n (by omega), a3 i (by omega), putR_n (by omega)], fun i hi => by rw [putR_n (by omega), a5 i (by omega), putR_n (by omega)], by rw [putR_s, bl], fun Q => ?_⟩
  conv => lhs; simp (disch := omega) only [X_188_0, X_188_1, X_188_4_t, X_188_4_f, X_188_4, X_188_7, X_188_9, X_188_10, X_188_11, X_188_12, X_188_13, X_188_16, X_188_19_t, X_188_19_f, X_188_19, X_188_22, X_188_23, X_188_24, X_188_25, X_188_26, X_188_27, X_188_30, X_188_31, X_188_32, X_188_35, X_188_36_t, X_188_36_f, X_188_36, X_188_39, X_188_40, X_188_41, X_188_44, X_188_47, X_188_49_t, X_188_49_f, X_188_49, X_188_52, X_188_53, X_188_56, X_188_57, X_188_58, X_188_59, X_188_60, X_188_61, X_188_62, X_188_63, X_188_66, X_188_67, X_188_68, X_188_69_t, X_188_69_f, X_188_69, X_188_72, X_188_75, X_188_76_t, X_188_76_f, X_188_76, X_188_79, X_188_80, X_188_81, X_188_82, X_188_85, X_188_86, X_188_87, X_188_88, X_188_89, X_188_92, X_188_95, X_188_96, X_188_97, X_188_100, X_188_101, X_188_104, X_188_105, X_188_106, X_188_107_t, X_188_107_f, X_188_107, X_188_110, X_188_111, X_188_114, X_188_115, X_188_118, X_188_119, X_188_120, X_188_123_t, X_188_123_f, X_188_123, X_188_126, X_188_127, X_188_130, X_188_131, X_188_132, X_188_133_t, X_188_133_f, X_188_133, X_188_136, X_188_137, X_188_140, X_188_141, X_188_144, X_188_145, X_188_146, X_188_149, X_188_150, X_188_151, X_188_152, X_188_153, X_188_154, X_188_155_t, X_188_155_f, X_188_155, X_188_158, X_188_159, X_188_160, X_188_161, X_188_164, X_188_167, X_188_170, X_188_173, X_188_174, X_188_175, X_188_178, X_188_181, X_188_182, X_188_183, X_188_186, X_188_187, X_188_188, X_188_191, natS, cT, pushR_none, fixp_i]
  refine (a7 Q).trans ?_
  conv => lhs; rw [X_188_48]
  conv => lhs; simp (disch := omega) only [X_188_0, X_188_1, X_188_4_t, X_188_4_f, X_188_4, X_188_7, X_188_9, X_188_10, X_188_11, X_188_12, X_188_13, X_188_16, X_188_19_t, X_188_19_f, X_188_19, X_188_22, X_188_23, X_188_24, X_188_25, X_188_26, X_188_27, X_188_30, X_188_31, X_188_32, X_188_35, X_188_36_t, X_188_36_f, X_188_36, X_188_39, X_188_40, X_188_41, X_188_44, X_188_47, X_188_49_t, X_188_49_f, X_188_49, X_188_52, X_188_53, X_188_56, X_188_57, X_188_58, X_188_59, X_188_60, X_188_61, X_188_62, X_188_63, X_188_66, X_188_67, X_188_68, X_188_69_t, X_188_69_f, X_188_69, X_188_72, X_188_75, X_188_76_t, X_188_76_f, X_188_76, X_188_79, X_188_80, X_188_81, X_188_82, X_188_85, X_188_86, X_188_87, X_188_88, X_188_89, X_188_92, X_188_95, X_188_96, X_188_97, X_188_100, X_188_101, X_188_104, X_188_105, X_188_106, X_188_107_t, X_188_107_f, X_188_107, X_188_110, X_188_111, X_188_114, X_188_115, X_188_118, X_188_119, X_188_120, X_188_123_t, X_188_123_f, X_188_123, X_188_126, X_188_127, X_188_130, X_188_131, X_188_132, X_188_133_t, X_188_133_f, X_188_133, X_188_136, X_188_137, X_188_140, X_188_141, X_188_144, X_188_145, X_188_146, X_188_149, X_188_150, X_188_151, X_188_152, X_188_153, X_188_154, X_188_155_t, X_188_155_f, X_188_155, X_188_158, X_188_159, X_188_160, X_188_161, X_188_164, X_188_167, X_188_170, X_188_173, X_188_174, X_188_175, X_188_178, X_188_181, X_188_182, X_188_183, X_188_186, X_188_187, X_188_188, X_188_191, r1_63_18, r1_63_19, hS_77, hS_78, hS_p77, Int.toNat_natCast, a4, a6, e5, putR_s, e1, natS, cM, pushR_none, fixp_i]
theorem DUE_s {d n k : Nat} {h : AH} (hd : 4 ≤ d) (hn : n ≤ 3) (ih : CHD d n k h) : DUE d n (k + 1) h := by
  intro l F V C B f N l3 hl hf hN hz hF hV hC hB
  have g0 := g1_63
  have g77 := g1_77
  have hW : decide (l % 2 = 0) = decide ((k + 1) % 2 = 0) := by
    have : (l % 2 = 0) ↔ ((k + 1) % 2 = 0) := by omega
    exact decide_eq_decide.mpr this
  have L : ∀ (m j : Nat) (b : Int) (F V C B : TF) (l3 : Option AV), j + m = 5 → (∀ s, 98 ≤ s → F s = 0) → (∀ s, s < 98 → V (98 * l + s) = f s) → C l = (j : Int) - 1 → B l = b → -1000000 ≤ b ∧ b ≤ 1000000 → ∃ (F' V' C' B' : TF) (l3' : Option AV), (∀ s, 98 ≤ s → F' s = 0) ∧ (∀ s, s < 98 * (l + 1) → V' s = V s) ∧ (∀ i, i < l → C' i = C i) ∧ C' l = 4 ∧ (∀ i, i < l → B' i = B i) ∧ B' l = mj (decide (l % 2 = 0)) (mm k) f m j b ∧ ∀ Q, wp d 188 48 [some (.inr (.inr (some 63))), some (.inl (n : Int)), some (.inl (l : Int)), l3] [] G1 (hS h F V C B) Q = wp d 188 48 [some (.inr (.inr (some 63))), some (.inl (n : Int)), some (.inl (l : Int)), l3'] [] G1 (hS h F' V' C' B') Q := by
    intro m
    induction m with
    | zero =>
      intro j b F V C B l3 hj hF hV hC hB hb
      exact ⟨F, V, C, B, l3, hF, fun _ _ => rfl, fun _ _ => rfl, by omega, fun _ _ => rfl, hB, fun _ => rfl⟩
    | succ m ihm =>
      intro j b F V C B l3 hj hF hV hC hB hb
      have eC : (j : Int) - 1 + 1 = (j : Int) := by omega
      have cF : ∀ Q, call d 185 [.inr (.inr (some 63)), .inl (l : Int)] G1 (hS h F V (putR C l (j : Int)) B) Q = Q none G1 (hS h f V (putR C l (j : Int)) B) := fun Q => by
        rw [S3_from (by omega) (by omega)]
        have e : mixR 98 (fun s => V (98 * l + s)) F = f := by
          funext s
          by_cases z : s < 98
          · rw [mix_lt z]; exact hV s z
          · rw [mix_ge (by omega), hF s (by omega), hz s (by omega)]
        rw [e]
      have cB : j < 4 → ∀ Q, call d 146 [.inr (.inr (some 74)), .inl (j : Int)] G1 (hS h f V (putR C l (j : Int)) B) Q = if barM f (j : Int) then Q (some (.inl 1)) G1 (hS h f V (putR C l (j : Int)) B) else Q (some (.inl 0)) G1 (hS h f V (putR C l (j : Int)) B) := fun hj4 Q => by
        rw [S3_isBarred (by omega) (Or.inr rfl) (by omega) (by rw [hS_74]; exact hf.1) (by rw [hS_74]; exact hf.2.2.1), hS_74]
      have cG : ∀ Q, call d 149 [.inr (.inr (some 74)), .inl (j : Int)] G1 (hS h f V (putR C l (j : Int)) B) Q = Q none G1 (hS h (dF f (j : Int)) V (putR C l (j : Int)) B) := fun Q => by
        rw [S3_goDeed (by omega) (Or.inr rfl) (Or.inl (by omega)) (by rw [hS_74]; exact hf.1), hS_74, hS_s74]
      have ch : ∀ g N', tyOk g N' → N' + (k : Int) ≤ 900000 → (∀ s, 98 ≤ s → g s = 0) → ∃ (F' V' C' B' : TF) (l3' : Option AV), (∀ s, 98 ≤ s → F' s = 0) ∧ (∀ s, s < 98 * (l + 1) → V' s = V s) ∧ (∀ i, i < l → C' i = C i) ∧ C' l = 4 ∧ (∀ i, i < l → B' i = B i) ∧ B' l = mj (decide (l % 2 = 0)) (mm k) f m (j + 1) (stp (decide (l % 2 = 0)) b (mm k g)) ∧ ∀ Q, wp d 188 149 [some (.inr (.inr (some 63))), some (.inl (n : Int)), some (.inl (l : Int)), some (.inl 1)] [] G1 (hS h g V (putR C l (j : Int)) B) Q = wp d 188 48 [some (.inr (.inr (some 63))), some (.inl (n : Int)), some (.inl (l : Int)), l3'] [] G1 (hS h F' V' C' B') Q := by
        intro g N' hg hN' hgz
        obtain ⟨F1, V1, C1, B1, l31, a1, a2, a3, a4, a5, a6⟩ := ih l g V (putR C l (j : Int)) B N' (by omega) hg hN' hgz (by rw [hB]; exact hb)
        have bm := mm_b (k := k) hg hN'
        have sb : -1000000 ≤ stp (decide (l % 2 = 0)) b (mm k g) ∧ stp (decide (l % 2 = 0)) b (mm k g) ≤ 1000000 := by
          cases decide (l % 2 = 0) <;> simp only [stp] <;> split <;> omega
        obtain ⟨F2, V2, C2, B2, l32, b1, b2, b3, b4, b5, b6, b7⟩ := ihm (j + 1) (stp (decide (l % 2 = 0)) b (mm k g)) F1 V1 C1 B1 l31 (by omega) a1 (fun s hs => by rw [a2 _ (by omega)]; exact hV s hs) (by rw [a3 l (Nat.le_refl _), putR_s]; omega) (by rw [a5, hB]) sb
        exact ⟨F2, V2, C2, B2, l32, b1, fun s hs => by rw [b2 s hs, a2 s hs], fun i hi => by rw [b3 i hi, a3 i (by omega), putR_n (by omega)], b4, fun i hi => by rw [b5 i hi, a4 i hi], b6, fun Q => (a6 Q).trans (b7 Q)⟩
      by_cases h4 : j = 4
      · have e : mj (decide (l % 2 = 0)) (mm k) f (m + 1) j b = mj (decide (l % 2 = 0)) (mm k) f m (j + 1) (stp (decide (l % 2 = 0)) b (mm k f)) := by
          conv => lhs; unfold mj; rw [if_pos h4]
        rw [e]
        have ed : dF f (j : Int) = f := by unfold dF; rw [if_neg (by omega), if_pos (by omega)]
        rw [ed] at cG
        obtain ⟨F2, V2, C2, B2, l32, b1, b2, b3, b4, b5, b6, b7⟩ := ch f N hf (by omega) hz
        refine ⟨F2, V2, C2, B2, l32, b1, b2, b3, b4, b5, b6, fun Q => ?_⟩
        refine Eq.trans ?_ (b7 Q)
        conv => lhs; rw [X_188_48]
        conv => lhs; simp (disch := omega) only [X_188_0, X_188_1, X_188_4_t, X_188_4_f, X_188_4, X_188_7, X_188_9, X_188_10, X_188_11, X_188_12, X_188_13, X_188_16, X_188_19_t, X_188_19_f, X_188_19, X_188_22, X_188_23, X_188_24, X_188_25, X_188_26, X_188_27, X_188_30, X_188_31, X_188_32, X_188_35, X_188_36_t, X_188_36_f, X_188_36, X_188_39, X_188_40, X_188_41, X_188_44, X_188_47, X_188_49_t, X_188_49_f, X_188_49, X_188_52, X_188_53, X_188_56, X_188_57, X_188_58, X_188_59, X_188_60, X_188_61, X_188_62, X_188_63, X_188_66, X_188_67, X_188_68, X_188_69_t, X_188_69_f, X_188_69, X_188_72, X_188_75, X_188_76_t, X_188_76_f, X_188_76, X_188_79, X_188_80, X_188_81, X_188_82, X_188_85, X_188_86, X_188_87, X_188_88, X_188_89, X_188_92, X_188_95, X_188_96, X_188_97, X_188_100, X_188_101, X_188_104, X_188_105, X_188_106, X_188_107_t, X_188_107_f, X_188_107, X_188_110, X_188_111, X_188_114, X_188_115, X_188_118, X_188_119, X_188_120, X_188_123_t, X_188_123_f, X_188_123, X_188_126, X_188_127, X_188_130, X_188_131, X_188_132, X_188_133_t, X_188_133_f, X_188_133, X_188_136, X_188_137, X_188_140, X_188_141, X_188_144, X_188_145, X_188_146, r1_63_15, r1_63_18, hS_77, hS_p77, Int.toNat_natCast, hC, eC, putR_s, cF, cG, pushR_some, pushR_none, fixp_i]
      · by_cases hb4 : barM f (j : Int)
        · have e : mj (decide (l % 2 = 0)) (mm k) f (m + 1) j b = mj (decide (l % 2 = 0)) (mm k) f m (j + 1) b := by
            conv => lhs; unfold mj opt; rw [if_neg h4, if_pos hb4]
          rw [e]
          obtain ⟨F2, V2, C2, B2, l32, b1, b2, b3, b4, b5, b6, b7⟩ := ihm (j + 1) b f V (putR C l (j : Int)) B (some (.inl 0)) (by omega) hz hV (by rw [putR_s]; omega) hB hb
          refine ⟨F2, V2, C2, B2, l32, b1, b2, fun i hi => by rw [b3 i hi, putR_n (by omega)], b4, b5, b6, fun Q => ?_⟩
          refine Eq.trans ?_ (b7 Q)
          have cB2 := cB (by omega)
          conv => lhs; rw [X_188_48]
          conv => lhs; simp (disch := omega) only [X_188_0, X_188_1, X_188_4_t, X_188_4_f, X_188_4, X_188_7, X_188_9, X_188_10, X_188_11, X_188_12, X_188_13, X_188_16, X_188_19_t, X_188_19_f, X_188_19, X_188_22, X_188_23, X_188_24, X_188_25, X_188_26, X_188_27, X_188_30, X_188_31, X_188_32, X_188_35, X_188_36_t, X_188_36_f, X_188_36, X_188_39, X_188_40, X_188_41, X_188_44, X_188_47, X_188_49_t, X_188_49_f, X_188_49, X_188_52, X_188_53, X_188_56, X_188_57, X_188_58, X_188_59, X_188_60, X_188_61, X_188_62, X_188_63, X_188_66, X_188_67, X_188_68, X_188_69_t, X_188_69_f, X_188_69, X_188_72, X_188_75, X_188_76_t, X_188_76_f, X_188_76, X_188_79, X_188_80, X_188_81, X_188_82, X_188_85, X_188_86, X_188_87, X_188_88, X_188_89, X_188_92, X_188_95, X_188_96, X_188_97, X_188_100, X_188_101, X_188_104, X_188_105, X_188_106, X_188_107_t, X_188_107_f, X_188_107, X_188_110, X_188_111, X_188_114, X_188_115, X_188_118, X_188_119, X_188_120, X_188_123_t, X_188_123_f, X_188_123, X_188_126, X_188_127, X_188_130, X_188_131, X_188_132, X_188_133_t, X_188_133_f, X_188_133, X_188_136, X_188_137, X_188_140, X_188_141, X_188_144, X_188_145, X_188_146, X_188_149, X_188_150, X_188_151, X_188_152, X_188_153, X_188_154, X_188_155_t, X_188_155_f, X_188_155, X_188_158, X_188_159, X_188_160, X_188_161, X_188_164, X_188_167, X_188_170, X_188_173, X_188_174, X_188_175, X_188_178, X_188_181, X_188_182, X_188_183, X_188_186, X_188_187, X_188_188, X_188_191, r1_63_15, r1_63_18, hS_77, hS_p77, Int.toNat_natCast, hC, eC, putR_s, cF, cB2, if_pos hb4, pushR_some, pushR_none, fixp_i]
        · have e : mj (decide (l % 2 = 0)) (mm k) f (m + 1) j b = mj (decide (l % 2 = 0)) (mm k) f m (j + 1) (stp (decide (l % 2 = 0)) b (mm k (mvF f (j : Int)))) := by
            conv => lhs; unfold mj opt; rw [if_neg h4, if_neg hb4]
          rw [e]
          have ed : dF f (j : Int) = mvF f (j : Int) := by unfold dF; rw [if_neg (by omega), if_neg (by omega)]
          rw [ed] at cG
          obtain ⟨F2, V2, C2, B2, l32, b1, b2, b3, b4, b5, b6, b7⟩ := ch (mvF f (j : Int)) (N + 1) (mvF_ty (by omega) hf) (by omega) (fun s hs => by rw [mvF_hi (by omega) hs hf.1]; exact hz s hs)
          refine ⟨F2, V2, C2, B2, l32, b1, b2, b3, b4, b5, b6, fun Q => ?_⟩
          refine Eq.trans ?_ (b7 Q)
          have cB2 := cB (by omega)
          conv => lhs; rw [X_188_48]
          conv => lhs; simp (disch := omega) only [X_188_0, X_188_1, X_188_4_t, X_188_4_f, X_188_4, X_188_7, X_188_9, X_188_10, X_188_11, X_188_12, X_188_13, X_188_16, X_188_19_t, X_188_19_f, X_188_19, X_188_22, X_188_23, X_188_24, X_188_25, X_188_26, X_188_27, X_188_30, X_188_31, X_188_32, X_188_35, X_188_36_t, X_188_36_f, X_188_36, X_188_39, X_188_40, X_188_41, X_188_44, X_188_47, X_188_49_t, X_188_49_f, X_188_49, X_188_52, X_188_53, X_188_56, X_188_57, X_188_58, X_188_59, X_188_60, X_188_61, X_188_62, X_188_63, X_188_66, X_188_67, X_188_68, X_188_69_t, X_188_69_f, X_188_69, X_188_72, X_188_75, X_188_76_t, X_188_76_f, X_188_76, X_188_79, X_188_80, X_188_81, X_188_82, X_188_85, X_188_86, X_188_87, X_188_88, X_188_89, X_188_92, X_188_95, X_188_96, X_188_97, X_188_100, X_188_101, X_188_104, X_188_105, X_188_106, X_188_107_t, X_188_107_f, X_188_107, X_188_110, X_188_111, X_188_114, X_188_115, X_188_118, X_188_119, X_188_120, X_188_123_t, X_188_123_f, X_188_123, X_188_126, X_188_127, X_188_130, X_188_131, X_188_132, X_188_133_t, X_188_133_f, X_188_133, X_188_136, X_188_137, X_188_140, X_188_141, X_188_144, X_188_145, X_188_146, r1_63_15, r1_63_18, hS_77, hS_p77, Int.toNat_natCast, hC, eC, putR_s, cF, cB2, if_neg hb4, cG, pushR_some, pushR_none, fixp_i]
  obtain ⟨F', V', C', B', l3', a1, a2, a3, a4, a5, a6, a7⟩ := L 5 0 (ini0 (decide (l % 2 = 0))) F V C B l3 (by omega) hF hV (by rw [hC]; rfl) hB (by cases decide (l % 2 = 0) <;> simp only [ini0] <;> omega)
  refine ⟨F', V', C', B', l3', a1, a2, a3, a4, a5, ?_, a7⟩
  rw [a6, hW, mj_mm]
theorem DUE_all {d n : Nat} {h : AH} (hd : 4 ≤ d) (hn : n ≤ 3) : ∀ k, DUE d n (k + 1) h ∧ CHD d n k h
  | 0 => ⟨DUE_s hd hn (CHD_0 hd hn), CHD_0 hd hn⟩
  | k + 1 => by
    have q := DUE_all hd hn k (h := h)
    have c := CHD_s hd hn q.1
    exact ⟨DUE_s hd hn c, c⟩

theorem Op_duel {x : Int} (h_x : -2147483648 ≤ x ∧ x < 2147483648) : OpI 66 188 [.inl x] := by
  intro n h H hn
  have g0 := g1_0
  have g3 := g1_3
  have g63 := g1_63
  have g77 := g1_77
  have g78 := g1_78
  have t3 : isToy 3 := Or.inl rfl
  have t10 : isToy 10 := Or.inr (Or.inl rfl)
  have s10 := toy_s t10
  rcases LIV_c H with L | L
  · refine OpI_same (r := -4) (by omega) H (fun Q => ?_) (fun Q => ?_)
    · rw [C_66]
      simp (disch := omega) only [X_66_0, X_66_1, X_66_4, X_66_7_t, X_66_7_f, X_66_7, X_66_10, X_66_12, X_66_13, X_66_14, X_66_15, X_66_16, X_66_19_t, X_66_19_f, X_66_19, X_66_22, X_66_23, X_66_24, X_66_25, X_66_28, X_66_29, X_66_32, X_66_35, X_66_36, X_66_37, X_66_38, X_66_39, X_66_40, X_66_43, X_66_46, X_66_49, X_66_52, r1_0_2]
    · rw [C_188]
      simp (disch := omega) only [X_188_0, X_188_1, X_188_4_t, X_188_4_f, X_188_4, X_188_7, X_188_9, X_188_10, X_188_11, X_188_12, X_188_13, X_188_16, X_188_19_t, X_188_19_f, X_188_19, X_188_22, X_188_23, X_188_24, X_188_25, X_188_26, X_188_27, X_188_30, X_188_31, X_188_32, X_188_35, X_188_36_t, X_188_36_f, X_188_36, X_188_39, X_188_40, X_188_41, X_188_44, X_188_47, X_188_49_t, X_188_49_f, X_188_49, X_188_52, X_188_53, X_188_56, X_188_57, X_188_58, X_188_59, X_188_60, X_188_61, X_188_62, X_188_63, X_188_66, X_188_67, X_188_68, X_188_69_t, X_188_69_f, X_188_69, X_188_72, X_188_75, X_188_76_t, X_188_76_f, X_188_76, X_188_79, X_188_80, X_188_81, X_188_82, X_188_85, X_188_86, X_188_87, X_188_88, X_188_89, X_188_92, X_188_95, X_188_96, X_188_97, X_188_100, X_188_101, X_188_104, X_188_105, X_188_106, X_188_107_t, X_188_107_f, X_188_107, X_188_110, X_188_111, X_188_114, X_188_115, X_188_118, X_188_119, X_188_120, X_188_123_t, X_188_123_f, X_188_123, X_188_126, X_188_127, X_188_130, X_188_131, X_188_132, X_188_133_t, X_188_133_f, X_188_133, X_188_136, X_188_137, X_188_140, X_188_141, X_188_144, X_188_145, X_188_146, X_188_149, X_188_150, X_188_151, X_188_152, X_188_153, X_188_154, X_188_155_t, X_188_155_f, X_188_155, X_188_158, X_188_159, X_188_160, X_188_161, X_188_164, X_188_167, X_188_170, X_188_173, X_188_174, X_188_175, X_188_178, X_188_181, X_188_182, X_188_183, X_188_186, X_188_187, X_188_188, X_188_191]
  obtain ⟨L1, L2, L3⟩ := L
  by_cases h1 : 0 ≤ x ∧ x ≤ 3
  case neg =>
    refine OpI_same (r := -1) (by omega) H (fun Q => ?_) (fun Q => ?_)
    · rw [C_66]
      simp (disch := omega) only [X_66_0, X_66_1, X_66_4, X_66_7_t, X_66_7_f, X_66_7, X_66_10, X_66_12, X_66_13, X_66_14, X_66_15, X_66_16, X_66_19_t, X_66_19_f, X_66_19, X_66_22, X_66_23, X_66_24, X_66_25, X_66_28, X_66_29, X_66_32, X_66_35, X_66_36, X_66_37, X_66_38, X_66_39, X_66_40, X_66_43, X_66_46, X_66_49, X_66_52, r1_0_2, S_isWithin_f, pushR_some]
    · rw [C_188]
      simp (disch := omega) only [X_188_0, X_188_1, X_188_4_t, X_188_4_f, X_188_4, X_188_7, X_188_9, X_188_10, X_188_11, X_188_12, X_188_13, X_188_16, X_188_19_t, X_188_19_f, X_188_19, X_188_22, X_188_23, X_188_24, X_188_25, X_188_26, X_188_27, X_188_30, X_188_31, X_188_32, X_188_35, X_188_36_t, X_188_36_f, X_188_36, X_188_39, X_188_40, X_188_41, X_188_44, X_188_47, X_188_49_t, X_188_49_f, X_188_49, X_188_52, X_188_53, X_188_56, X_188_57, X_188_58, X_188_59, X_188_60, X_188_61, X_188_62, X_188_63, X_188_66, X_188_67, X_188_68, X_188_69_t, X_188_69_f, X_188_69, X_188_72, X_188_75, X_188_76_t, X_188_76_f, X_188_76, X_188_79, X_188_80, X_188_81, X_188_82, X_188_85, X_188_86, X_188_87, X_188_88, X_188_89, X_188_92, X_188_95, X_188_96, X_188_97, X_188_100, X_188_101, X_188_104, X_188_105, X_188_106, X_188_107_t, X_188_107_f, X_188_107, X_188_110, X_188_111, X_188_114, X_188_115, X_188_118, X_188_119, X_188_120, X_188_123_t, X_188_123_f, X_188_123, X_188_126, X_188_127, X_188_130, X_188_131, X_188_132, X_188_133_t, X_188_133_f, X_188_133, X_188_136, X_188_137, X_188_140, X_188_141, X_188_144, X_188_145, X_188_146, X_188_149, X_188_150, X_188_151, X_188_152, X_188_153, X_188_154, X_188_155_t, X_188_155_f, X_188_155, X_188_158, X_188_159, X_188_160, X_188_161, X_188_164, X_188_167, X_188_170, X_188_173, X_188_174, X_188_175, X_188_178, X_188_181, X_188_182, X_188_183, X_188_186, X_188_187, X_188_188, X_188_191, S3_in_f, pushR_some]
  obtain ⟨k, rfl⟩ := nat_of h1.1
  have hk : k ≤ 3 := by omega
  have hf := FUL_ty L3
  have hz := H.2.2.2.2.1.2.2.2
  obtain ⟨ha, cA, TA, FA, A8, A9⟩ := S_takeBeads (d := 29) (t := 10) (u := 3) (h := h) (f := h 64) (by omega) t10 t3 (by omega) L3.1 (Or.inr L2) hf.1
  obtain ⟨v, hb, cB, RB, BB, TB, FB⟩ := LBT_all (2 * k) (by omega) 29 (h 64) 40 (-1000) 1000 ha (by omega) (by omega) (by omega) (by omega) (by omega) (by rw [FA _ (by omega)]; exact H.1) TA hf
  have bm := mm_b (k := 2 * k) hf (by omega)
  have ev : v = mm (2 * k) (h 64) := by unfold Rv at RB; omega
  have e2 : (2 : Int) * (k : Int) = ((2 * k : Nat) : Int) := by omega
  generalize eD : put hb 0 10 v = hd
  have fd : ∀ a, ¬ a = 0 → (a < 10 ∨ 16 ≤ a) → hd a = h a := fun a a0 a1 => by rw [← eD, put_row a0, FB a a1, FA a (by omega)]
  have d64 : hd 64 = h 64 := fd 64 (by omega) (by omega)
  have d63 : hd 63 1 = 1 := by rw [fd 63 (by omega) (by omega), L1]
  have d74 : ∀ s, 98 ≤ s → hd 74 s = 0 := fun s hs => by rw [fd 74 (by omega) (by omega)]; exact H.2.1 s hs
  have cH : ∀ Q, call 29 164 [.inr (.inr (some 63))] G1 hd Q = Q none G1 (hS hd (h 64) (hd 76) (hd 77) (hd 78)) := fun Q => by
    rw [S3_layHand (by omega) (fun s hs => by rw [d74 s hs, d64, hz s hs]), d64]
    have e : setR hd 74 (h 64) = hS hd (h 64) (hd 76) (hd 77) (hd 78) := by
      rw [← hS_s74 (F := hd 74), hS_e]
    rw [e]
  have cT : ∀ Q, call 29 186 [.inr (.inr (some 63)), .inl 0] G1 (hS hd (h 64) (hd 76) (hd 77) (hd 78)) Q = Q none G1 (hS hd (h 64) (blk (hd 76) (98 * 0) 98 (h 64)) (putR (hd 77) 0 (-1)) (putR (hd 78) 0 (ini0 true))) := fun Q => S3_to (l := 0) (by omega) (by omega)
  have fin : ∃ F V C B : TF, (∀ s, 98 ≤ s → F s = 0) ∧ ∀ Q, call 30 188 [.inr (.inr (some 63)), .inl (k : Int)] G1 hd Q = Q (some (.inl 1)) G1 (put (hS hd F V C B) 63 10 v) := by
    by_cases k0 : k = 0
    · subst k0
      have cS : ∀ Q, call 29 184 [.inr (.inr (some 63))] G1 (hS hd (h 64) (blk (hd 76) (98 * 0) 98 (h 64)) (putR (hd 77) 0 (-1)) (putR (hd 78) 0 (ini0 true))) Q = _ := fun Q => S3_sides (f := h 64) (N := 40) (by omega) hS_74 hf (by omega)
      have e0 : ldF (h 64) = v := ev.symm
      refine ⟨h 64, blk (hd 76) (98 * 0) 98 (h 64), putR (hd 77) 0 (-1), putR (hd 78) 0 (ini0 true), hz, fun Q => ?_⟩
      rw [C_188]
      simp (disch := omega) only [X_188_0, X_188_1, X_188_4_t, X_188_4_f, X_188_4, X_188_7, X_188_9, X_188_10, X_188_11, X_188_12, X_188_13, X_188_16, X_188_19_t, X_188_19_f, X_188_19, X_188_22, X_188_23, X_188_24, X_188_25, X_188_26, X_188_27, X_188_30, X_188_31, X_188_32, X_188_35, X_188_36_t, X_188_36_f, X_188_36, X_188_39, X_188_40, X_188_41, X_188_44, X_188_47, X_188_49_t, X_188_49_f, X_188_49, X_188_52, X_188_53, X_188_56, X_188_57, X_188_58, X_188_59, X_188_60, X_188_61, X_188_62, X_188_63, X_188_66, X_188_67, X_188_68, X_188_69_t, X_188_69_f, X_188_69, X_188_72, X_188_75, X_188_76_t, X_188_76_f, X_188_76, X_188_79, X_188_80, X_188_81, X_188_82, X_188_85, X_188_86, X_188_87, X_188_88, X_188_89, X_188_92, X_188_95, X_188_96, X_188_97, X_188_100, X_188_101, X_188_104, X_188_105, X_188_106, X_188_107_t, X_188_107_f, X_188_107, X_188_110, X_188_111, X_188_114, X_188_115, X_188_118, X_188_119, X_188_120, X_188_123_t, X_188_123_f, X_188_123, X_188_126, X_188_127, X_188_130, X_188_131, X_188_132, X_188_133_t, X_188_133_f, X_188_133, X_188_136, X_188_137, X_188_140, X_188_141, X_188_144, X_188_145, X_188_146, X_188_149, X_188_150, X_188_151, X_188_152, X_188_153, X_188_154, X_188_155_t, X_188_155_f, X_188_155, X_188_158, X_188_159, X_188_160, X_188_161, X_188_164, X_188_167, X_188_170, X_188_173, X_188_174, X_188_175, X_188_178, X_188_181, X_188_182, X_188_183, X_188_186, X_188_187, X_188_188, X_188_191, S3_in_t, cH, cT, cS, e0, S3_asks, pushR_some, pushR_none, fixp_i]
    · obtain ⟨F', V', C', B', l3', a1, a2, a3, a4, a5, a6, a7⟩ := (DUE_all (d := 29) (n := k) (h := hd) (by omega) hk (2 * k - 1)).1 0 (h 64) (blk (hd 76) (98 * 0) 98 (h 64)) (putR (hd 77) 0 (-1)) (putR (hd 78) 0 (ini0 true)) (h 64) 40 none (by omega) hf (by omega) hz hz (fun s hs => blk_in hs) putR_s putR_s
      rw [show 2 * k - 1 + 1 = 2 * k by omega, ← ev] at a6
      refine ⟨F', V', putR C' 0 5, B', a1, fun Q => ?_⟩
      have e5 : (4 : Int) + 1 = 5 := rfl
      have t0 : (0 : Int).toNat = 0 := rfl
      rw [C_188]
      simp (disch := omega) only [X_188_0, X_188_1, X_188_4_t, X_188_4_f, X_188_4, X_188_7, X_188_9, X_188_10, X_188_11, X_188_12, X_188_13, X_188_16, X_188_19_t, X_188_19_f, X_188_19, X_188_22, X_188_23, X_188_24, X_188_25, X_188_26, X_188_27, X_188_30, X_188_31, X_188_32, X_188_35, X_188_36_t, X_188_36_f, X_188_36, X_188_39, X_188_40, X_188_41, X_188_44, X_188_47, X_188_49_t, X_188_49_f, X_188_49, X_188_52, X_188_53, X_188_56, X_188_57, X_188_58, X_188_59, X_188_60, X_188_61, X_188_62, X_188_63, X_188_66, X_188_67, X_188_68, X_188_69_t, X_188_69_f, X_188_69, X_188_72, X_188_75, X_188_76_t, X_188_76_f, X_188_76, X_188_79, X_188_80, X_188_81, X_188_82, X_188_85, X_188_86, X_188_87, X_188_88, X_188_89, X_188_92, X_188_95, X_188_96, X_188_97, X_188_100, X_188_101, X_188_104, X_188_105, X_188_106, X_188_107_t, X_188_107_f, X_188_107, X_188_110, X_188_111, X_188_114, X_188_115, X_188_118, X_188_119, X_188_120, X_188_123_t, X_188_123_f, X_188_123, X_188_126, X_188_127, X_188_130, X_188_131, X_188_132, X_188_133_t, X_188_133_f, X_188_133, X_188_136, X_188_137, X_188_140, X_188_141, X_188_144, X_188_145, X_188_146, X_188_149, X_188_150, X_188_151, X_188_152, X_188_153, X_188_154, X_188_155_t, X_188_155_f, X_188_155, X_188_158, X_188_159, X_188_160, X_188_161, X_188_164, X_188_167, X_188_170, X_188_173, X_188_174, X_188_175, X_188_178, X_188_181, X_188_182, X_188_183, X_188_186, X_188_187, X_188_188, X_188_191, S3_in_t, cH, cT, pushR_some, pushR_none, fixp_i]
      refine (a7 Q).trans ?_
      have z0 : ((0 : Nat) : Int) = 0 := rfl
      have z1 : (0 : Int) + -1 = -1 := rfl
      conv => lhs; rw [X_188_48]
      conv => lhs; simp (disch := omega) only [X_188_0, X_188_1, X_188_4_t, X_188_4_f, X_188_4, X_188_7, X_188_9, X_188_10, X_188_11, X_188_12, X_188_13, X_188_16, X_188_19_t, X_188_19_f, X_188_19, X_188_22, X_188_23, X_188_24, X_188_25, X_188_26, X_188_27, X_188_30, X_188_31, X_188_32, X_188_35, X_188_36_t, X_188_36_f, X_188_36, X_188_39, X_188_40, X_188_41, X_188_44, X_188_47, X_188_49_t, X_188_49_f, X_188_49, X_188_52, X_188_53, X_188_56, X_188_57, X_188_58, X_188_59, X_188_60, X_188_61, X_188_62, X_188_63, X_188_66, X_188_67, X_188_68, X_188_69_t, X_188_69_f, X_188_69, X_188_72, X_188_75, X_188_76_t, X_188_76_f, X_188_76, X_188_79, X_188_80, X_188_81, X_188_82, X_188_85, X_188_86, X_188_87, X_188_88, X_188_89, X_188_92, X_188_95, X_188_96, X_188_97, X_188_100, X_188_101, X_188_104, X_188_105, X_188_106, X_188_107_t, X_188_107_f, X_188_107, X_188_110, X_188_111, X_188_114, X_188_115, X_188_118, X_188_119, X_188_120, X_188_123_t, X_188_123_f, X_188_123, X_188_126, X_188_127, X_188_130, X_188_131, X_188_132, X_188_133_t, X_188_133_f, X_188_133, X_188_136, X_188_137, X_188_140, X_188_141, X_188_144, X_188_145, X_188_146, X_188_149, X_188_150, X_188_151, X_188_152, X_188_153, X_188_154, X_188_155_t, X_188_155_f, X_188_155, X_188_158, X_188_159, X_188_160, X_188_161, X_188_164, X_188_167, X_188_170, X_188_173, X_188_174, X_188_175, X_188_178, X_188_181, X_188_182, X_188_183, X_188_186, X_188_187, X_188_188, X_188_191, r1_63_18, r1_63_19, hS_77, hS_78, hS_p77, z0, z1, t0, Int.toNat_natCast, a4, e5, putR_s, pushR_none, fixp_i]
      conv => lhs; rw [X_188_48]
      conv => lhs; simp (disch := omega) only [X_188_0, X_188_1, X_188_4_t, X_188_4_f, X_188_4, X_188_7, X_188_9, X_188_10, X_188_11, X_188_12, X_188_13, X_188_16, X_188_19_t, X_188_19_f, X_188_19, X_188_22, X_188_23, X_188_24, X_188_25, X_188_26, X_188_27, X_188_30, X_188_31, X_188_32, X_188_35, X_188_36_t, X_188_36_f, X_188_36, X_188_39, X_188_40, X_188_41, X_188_44, X_188_47, X_188_49_t, X_188_49_f, X_188_49, X_188_52, X_188_53, X_188_56, X_188_57, X_188_58, X_188_59, X_188_60, X_188_61, X_188_62, X_188_63, X_188_66, X_188_67, X_188_68, X_188_69_t, X_188_69_f, X_188_69, X_188_72, X_188_75, X_188_76_t, X_188_76_f, X_188_76, X_188_79, X_188_80, X_188_81, X_188_82, X_188_85, X_188_86, X_188_87, X_188_88, X_188_89, X_188_92, X_188_95, X_188_96, X_188_97, X_188_100, X_188_101, X_188_104, X_188_105, X_188_106, X_188_107_t, X_188_107_f, X_188_107, X_188_110, X_188_111, X_188_114, X_188_115, X_188_118, X_188_119, X_188_120, X_188_123_t, X_188_123_f, X_188_123, X_188_126, X_188_127, X_188_130, X_188_131, X_188_132, X_188_133_t, X_188_133_f, X_188_133, X_188_136, X_188_137, X_188_140, X_188_141, X_188_144, X_188_145, X_188_146, X_188_149, X_188_150, X_188_151, X_188_152, X_188_153, X_188_154, X_188_155_t, X_188_155_f, X_188_155, X_188_158, X_188_159, X_188_160, X_188_161, X_188_164, X_188_167, X_188_170, X_188_173, X_188_174, X_188_175, X_188_178, X_188_181, X_188_182, X_188_183, X_188_186, X_188_187, X_188_188, X_188_191, r1_63_19, hS_78, t0, a6, S3_asks, pushR_some, pushR_none, fixp_i]
  obtain ⟨F, V, C, B, hF, q2⟩ := fin
  refine ⟨1, hd, put (hS hd F V C B) 63 10 v, by omega, fun Q => ?_, q2, INV_scr (INV_ask (v := v) (by omega) H) (fun a a1 => ?_) (fun s hs => ?_)⟩
  · rw [C_66]
    simp (disch := omega) only [X_66_0, X_66_1, X_66_4, X_66_7_t, X_66_7_f, X_66_7, X_66_10, X_66_12, X_66_13, X_66_14, X_66_15, X_66_16, X_66_19_t, X_66_19_f, X_66_19, X_66_22, X_66_23, X_66_24, X_66_25, X_66_28, X_66_29, X_66_32, X_66_35, X_66_36, X_66_37, X_66_38, X_66_39, X_66_40, X_66_43, X_66_46, X_66_49, X_66_52, r1_0_2, r1_0_3, S_isWithin_t, cA, e2, cB, S_told, eD, pushR_some, pushR_none]
  · have n74 : ¬ a = 74 := fun z => a1 (by unfold scr; omega)
    have n76 : ¬ a = 76 := fun z => a1 (by unfold scr; omega)
    have n77 : ¬ a = 77 := fun z => a1 (by unfold scr; omega)
    have n78 : ¬ a = 78 := fun z => a1 (by unfold scr; omega)
    have n10 : a < 10 ∨ 17 ≤ a := by have : ¬ (10 ≤ a ∧ a < 17) := fun z => a1 (Or.inl z); omega
    by_cases e63 : a = 63
    · subst e63
      funext j
      by_cases ek : j = 10
      · subst ek; rw [put_s, put_s]
      · rw [put_nk ek, put_nk ek, hS_o (by omega) (by omega) (by omega) (by omega), fd 63 (by omega) (by omega), put_row (by omega)]
    · rw [put_row e63, put_row e63, hS_o n74 n76 n77 n78, ← eD]
      by_cases e0 : a = 0
      · subst e0
        funext j
        by_cases ek : j = 10
        · subst ek; rw [put_s, put_s]
        · rw [put_nk ek, put_nk ek, FB 0 (by omega), FA 0 (by omega)]
      · rw [put_row e0, put_row e0, FB a (by omega), FA a (by omega)]
  · rw [put_row (by omega), hS_74]; exact hF s hs
