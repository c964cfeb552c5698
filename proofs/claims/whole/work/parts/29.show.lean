/-! 29: bars, what shows -/
abbrev kIn (f : TF) (c : Nat) : Int := f (f (69 + c)).toNat
abbrev stk (k : Int) : Prop := k = 3 ∨ k = 5
/-- the ring of a move can't be turned -/
abbrev barM (f : TF) (m : Int) : Prop := (m < 2 ∧ kIn f 4 = 5) ∨ (2 ≤ m ∧ (stk (kIn f 0) ∨ stk (kIn f 4)))
/-- what a cell shows -/
def shF (f : TF) (c : Nat) : Int := sh (f (f (69 + c)).toNat) (f (14 + (f (69 + c)).toNat)) c (f (83 + (f (69 + c)).toNat)) (f 97)
/-- a row is as it should be; N: more turns than that were not made -/
def tyOk (f : TF) (N : Int) : Prop := lieOk f ∧ (∀ i : Nat, i < 14 → ∃ c, c < 14 ∧ f (69 + c) = (i : Int)) ∧ (∀ i, i < 14 → 0 ≤ f i ∧ f i ≤ 5) ∧ (∀ i, i < 14 → 0 ≤ f (14 + i) ∧ f (14 + i) ≤ 9) ∧ (∀ i, i < 14 → 0 ≤ f (83 + i) ∧ f (83 + i) ≤ f 97) ∧ 0 ≤ f 97 ∧ f 97 ≤ N
theorem lie_n {f : TF} {N : Int} (hf : tyOk f N) {c : Nat} (hc : c < 14) : (f (69 + c)).toNat < 14 ∧ 0 ≤ f (69 + c) ∧ f (69 + c) < 14 := by
  have := hf.1.1 c hc
  omega
theorem sh_bd {f : TF} {N : Int} (hf : tyOk f N) (hN : N ≤ 900000) {c : Nat} (hc : c < 14) : (0 ≤ f (f (69 + c)).toNat ∧ f (f (69 + c)).toNat ≤ 5) ∧ (0 ≤ f (14 + (f (69 + c)).toNat) ∧ f (14 + (f (69 + c)).toNat) ≤ 9) ∧ (0 ≤ f (83 + (f (69 + c)).toNat) ∧ f (83 + (f (69 + c)).toNat) ≤ 900000) ∧ (0 ≤ f 97 ∧ f 97 ≤ 900000) := by
  have h1 := (lie_n hf hc).1
  obtain ⟨-, -, a1, a2, a3, a4, a5⟩ := hf
  have b3 := a3 _ h1
  exact ⟨a1 _ h1, a2 _ h1, by omega, by omega⟩
theorem sh_rng {k cl c b t : Int} (h : (0 ≤ cl ∧ cl ≤ 9) ∧ 0 ≤ b ∧ 0 ≤ t) : 0 ≤ sh k cl c b t ∧ sh k cl c b t ≤ 9 := by
  unfold sh
  (repeat' split) <;> omega
theorem shF_rng {f : TF} {N : Int} (hf : tyOk f N) (hN : N ≤ 900000) {c : Nat} (hc : c < 14) : 0 ≤ shF f c ∧ shF f c ≤ 9 := by
  obtain ⟨a, b, e, g⟩ := sh_bd hf hN hc
  exact sh_rng (by omega)
theorem tn14 {x : Int} (h : 0 ≤ x) : (14 + x).toNat = 14 + x.toNat := by omega
theorem tn83 {x : Int} (h : 0 ≤ x) : (83 + x).toNat = 83 + x.toNat := by omega
theorem tn69 {x : Int} (h : 0 ≤ x) : (69 + x).toNat = 69 + x.toNat := by omega
theorem tn29 {x : Int} (h : 0 ≤ x) : (29 + x).toNat = 29 + x.toNat := by omega
theorem c_nat {c : Int} (h : 0 ≤ c) : ∃ n : Nat, c = (n : Int) := ⟨c.toNat, by omega⟩
def isA (a : Nat) : Prop := a = 64 ∨ a = 74
theorem isA_s {a : Nat} (h : isA a) : (a < 1000 ∧ (shp G1 a).1 = 0) ∧ (shp G1 a).2 = 98 := by rcases h with rfl | rfl <;> decide
theorem S3_kindIn {d a c : Nat} {h : AH} {Q : Option AV → AG → AH → Prop} (hd : 1 ≤ d) (ha : isA a) (hc : c < 14) (hf : 0 ≤ h a (69 + c) ∧ h a (69 + c) < 14) : call d 144 [.inr (.inr (some a)), .inl (c : Int)] G1 h Q = Q (some (.inl (kIn (h a) c))) G1 h := by
  obtain ⟨d, rfl, -⟩ := pos_of hd
  have hs := isA_s ha
  have e1 : ((69 : Int) + (c : Int)).toNat = 69 + c := by omega
  rw [C_144]
  simp (disch := first | omega | (rw [e1]; omega)) only [X_144_0, X_144_1, X_144_2, X_144_3, X_144_5, X_144_6, X_144_7, X_144_8, X_144_9, X_144_10, e1, Int.zero_add]
theorem S3_showsIn {d a c : Nat} {N : Int} {h : AH} {Q : Option AV → AG → AH → Prop} (hd : 3 ≤ d) (ha : isA a) (hc : c < 14) (hf : tyOk (h a) N) (hN : N ≤ 900000) : call d 143 [.inr (.inr (some a)), .inl (c : Int)] G1 h Q = Q (some (.inl (shF (h a) c))) G1 h := by
  obtain ⟨d, rfl, hd2⟩ := pos_of hd
  have hs := isA_s ha
  have e1 : ((69 : Int) + (c : Int)).toNat = 69 + c := by omega
  have hl := lie_n hf hc
  have hb := sh_bd hf hN hc
  rw [C_143]
  simp (disch := omega) only [X_143_0, X_143_1, X_143_3, X_143_4, X_143_5, X_143_6, X_143_7, X_143_8, X_143_9, X_143_10, X_143_11, X_143_12, X_143_13, X_143_15, X_143_16, X_143_17, X_143_18, X_143_19, X_143_20, X_143_22, X_143_23, X_143_24, X_143_25, X_143_26, X_143_28, X_143_29, X_143_32, e1, Int.zero_add, tn14, tn83, fixp_n, fixp_i, fixp_r, S3_showsAs, pushR_some, Int.reduceToNat]
  rfl
theorem S3_barred {d a : Nat} {h : AH} {Q : Option AV → AG → AH → Prop} (hd : 2 ≤ d) (ha : isA a) (hf : lieOk (h a)) (hk : ∀ i, i < 14 → 0 ≤ h a i ∧ h a i ≤ 5) : call d 145 [.inr (.inr (some a))] G1 h Q = Q (some (.inl ((if kIn (h a) 4 = 5 then 1 else 0) + if stk (kIn (h a) 0) ∨ stk (kIn (h a) 4) then 2 else 0))) G1 h := by
  obtain ⟨d, rfl, hd2⟩ := pos_of hd
  have l0 := hf.1 0 (by omega)
  have l4 := hf.1 4 (by omega)
  have k0 : 0 ≤ kIn (h a) 0 ∧ kIn (h a) 0 ≤ 5 := hk _ (by omega)
  have k4 : 0 ≤ kIn (h a) 4 ∧ kIn (h a) 4 ≤ 5 := hk _ (by omega)
  have s0 : ∀ Q, call d 144 [.inr (.inr (some a)), .inl 0] G1 h Q = Q (some (.inl (kIn (h a) 0))) G1 h := fun Q => S3_kindIn (c := 0) (by omega) ha (by omega) l0
  have s4 : ∀ Q, call d 144 [.inr (.inr (some a)), .inl 4] G1 h Q = Q (some (.inl (kIn (h a) 4))) G1 h := fun Q => S3_kindIn (c := 4) (by omega) ha (by omega) l4
  rw [C_145]
  generalize kIn (h a) 4 = x4 at *
  generalize kIn (h a) 0 = x0 at *
  by_cases e5 : x4 = 5 <;> by_cases e0 : stk x0 <;> by_cases e4 : stk x4 <;> (first | rw [if_pos e5] | rw [if_neg e5]) <;> (first | rw [if_pos (Or.inl e0)] | rw [if_pos (Or.inr e4)] | rw [if_neg (fun z => z.elim e0 e4)]) <;> unfold stk at e0 e4 <;> first | (exfalso; omega) | (simp (disch := first | omega | assumption) only [X_145_0, X_145_1, X_145_2, X_145_5, X_145_6_t, X_145_6_f, X_145_6, X_145_9, X_145_10, X_145_13, X_145_14, X_145_15, X_145_16, X_145_17, X_145_20, X_145_23_t, X_145_23_f, X_145_23, X_145_26, X_145_27, X_145_28, X_145_31, X_145_34_t, X_145_34_f, X_145_34, X_145_37, X_145_38, X_145_39, X_145_40, X_145_43, X_145_44, s0, s4, S3_isStuck_t, S3_isStuck_f, fixp_n, fixp_i, fixp_r, pushR_some, Int.reduceAdd, Int.reduceSub, Int.reduceMul, Int.reduceDiv, Int.reduceMod, Int.reduceNeg, Int.reduceToNat, Int.reduceLT, Int.reduceLE, Int.reduceEq, Nat.reduceAdd, Nat.reduceMul, Nat.reduceEqDiff, reduceIte, or_true, true_or, or_false, false_or, or_self, and_true, true_and, and_false, false_and, not_true_eq_false, not_false_eq_true, ne_eq])
theorem bar_bit {a b s : Int} (ha : a = 0 ∨ a = 1) (hb : b = 0 ∨ b = 2) (hs : s = 0 ∨ s = 1) : bAnd (bShr (a + b) s) 1 = if (s = 0 ∧ a = 1) ∨ (s = 1 ∧ b = 2) then 1 else 0 := by
  rcases ha with rfl | rfl <;> rcases hb with rfl | rfl <;> rcases hs with rfl | rfl <;> decide
theorem S3_isBarred {d a : Nat} {m : Int} {h : AH} {Q : Option AV → AG → AH → Prop} (hd : 3 ≤ d) (ha : isA a) (hm : 0 ≤ m ∧ m < 4) (hf : lieOk (h a)) (hk : ∀ i, i < 14 → 0 ≤ h a i ∧ h a i ≤ 5) : call d 146 [.inr (.inr (some a)), .inl m] G1 h Q = if barM (h a) m then Q (some (.inl 1)) G1 h else Q (some (.inl 0)) G1 h := by
  obtain ⟨d, rfl, hd2⟩ := pos_of hd
  rw [C_146]
  simp (disch := first | omega | assumption) only [X_146_0, X_146_1, X_146_4, X_146_5, X_146_6, X_146_7, X_146_8, X_146_9, X_146_10, X_146_11_t, X_146_11_f, X_146_11, X_146_14, X_146_15, X_146_18, X_146_19, S3_barred, pushR_some]
  rw [bar_bit (by split <;> simp) (by split <;> simp) (by omega)]
  have hiff : ((m / 2 = 0 ∧ (if kIn (h a) 4 = 5 then (1 : Int) else 0) = 1) ∨ (m / 2 = 1 ∧ (if stk (kIn (h a) 0) ∨ stk (kIn (h a) 4) then (2 : Int) else 0) = 2)) ↔ barM (h a) m := by
    unfold barM
    by_cases e5 : kIn (h a) 4 = 5 <;> by_cases e0 : stk (kIn (h a) 0) ∨ stk (kIn (h a) 4) <;> (first | rw [if_pos e5] | rw [if_neg e5]) <;> (first | rw [if_pos e0] | rw [if_neg e0]) <;> constructor <;> intro q <;> first | (rcases q with ⟨q1, q2⟩ | ⟨q1, q2⟩ <;> first | exact Or.inl ⟨by omega, e5⟩ | exact Or.inr ⟨by omega, e0⟩ | (exfalso; omega)) | (rcases q with ⟨q1, q2⟩ | ⟨q1, q2⟩ <;> first | exact absurd q2 e5 | exact absurd q2 e0 | exact Or.inl ⟨by omega, rfl⟩ | exact Or.inr ⟨by omega, rfl⟩)
  by_cases eb : barM (h a) m
  · rw [if_pos (hiff.mpr eb), if_pos eb]
    simp (disch := omega) only [X_146_0, X_146_1, X_146_4, X_146_5, X_146_6, X_146_7, X_146_8, X_146_9, X_146_10, X_146_11_t, X_146_11_f, X_146_11, X_146_14, X_146_15, X_146_18, X_146_19, Int.reduceAdd, Int.reduceSub, Int.reduceMul, Int.reduceDiv, Int.reduceMod, Int.reduceNeg, Int.reduceToNat, Int.reduceLT, Int.reduceLE, Int.reduceEq, Nat.reduceAdd, Nat.reduceMul, Nat.reduceEqDiff, reduceIte, or_true, true_or, or_false, false_or, or_self, and_true, true_and, and_false, false_and, not_true_eq_false, not_false_eq_true, ne_eq]
  · rw [if_neg (fun z => eb (hiff.mp z)), if_neg eb]
    simp (disch := omega) only [X_146_0, X_146_1, X_146_4, X_146_5, X_146_6, X_146_7, X_146_8, X_146_9, X_146_10, X_146_11_t, X_146_11_f, X_146_11, X_146_14, X_146_15, X_146_18, X_146_19, Int.reduceAdd, Int.reduceSub, Int.reduceMul, Int.reduceDiv, Int.reduceMod, Int.reduceNeg, Int.reduceToNat, Int.reduceLT, Int.reduceLE, Int.reduceEq, Nat.reduceAdd, Nat.reduceMul, Nat.reduceEqDiff, reduceIte, or_true, true_or, or_false, false_or, or_self, and_true, true_and, and_false, false_and, not_true_eq_false, not_false_eq_true, ne_eq]
/-- the class -/
theorem S_showOf {d t i : Nat} {h : AH} {Q : Option AV → AG → AH → Prop} (hd : 3 ≤ d) (ht : isToy t) (hi : i < 14) (hb : (0 ≤ h (t + 1) i ∧ h (t + 1) i ≤ 5) ∧ (0 ≤ h (t + 2) i ∧ h (t + 2) i ≤ 9) ∧ (0 ≤ h (t + 3) i ∧ h (t + 3) i < 14) ∧ (0 ≤ h (t + 4) i ∧ h (t + 4) i ≤ 900000) ∧ (0 ≤ h t 6 ∧ h t 6 ≤ 900000)) : call d 18 [.inr (.inr (some t)), .inl (i : Int)] G1 h Q = Q (some (.inl (sh (h (t + 1) i) (h (t + 2) i) (h (t + 3) i) (h (t + 4) i) (h t 6)))) G1 h := by
  obtain ⟨d, rfl, hd2⟩ := pos_of hd
  have hs := toy_s ht
  have hr := toy_r ht
  rw [C_18]
  simp (disch := omega) only [X_18_0, X_18_1_t, X_18_1_f, X_18_1, X_18_4, X_18_5, X_18_7_t, X_18_7_f, X_18_7, X_18_10, X_18_11, X_18_14, X_18_15, X_18_16, X_18_17, X_18_20, X_18_21, X_18_22, X_18_23, X_18_26, X_18_27, X_18_28, X_18_29, X_18_32, X_18_33, X_18_34, X_18_35, X_18_38, X_18_41, X_18_44, X_18_45, hr, Int.toNat_natCast, S_shown, pushR_some]
theorem TR_sh {h : AH} {t : Nat} {f : TF} {N : Int} (hT : TR h t f) (hf : tyOk f N) (hN : N ≤ 900000) {c : Nat} (hc : c < 14) : ((0 ≤ h (t + 1) (f (69 + c)).toNat ∧ h (t + 1) (f (69 + c)).toNat ≤ 5) ∧ (0 ≤ h (t + 2) (f (69 + c)).toNat ∧ h (t + 2) (f (69 + c)).toNat ≤ 9) ∧ (0 ≤ h (t + 3) (f (69 + c)).toNat ∧ h (t + 3) (f (69 + c)).toNat < 14) ∧ (0 ≤ h (t + 4) (f (69 + c)).toNat ∧ h (t + 4) (f (69 + c)).toNat ≤ 900000) ∧ (0 ≤ h t 6 ∧ h t 6 ≤ 900000)) ∧ sh (h (t + 1) (f (69 + c)).toNat) (h (t + 2) (f (69 + c)).toNat) (h (t + 3) (f (69 + c)).toNat) (h (t + 4) (f (69 + c)).toNat) (h t 6) = shF f c := by
  have hl := lie_n hf hc
  obtain ⟨a1, a2, a3, a4, a5, a6⟩ := hT
  obtain ⟨b1, b2, b3, b4⟩ := sh_bd hf hN hc
  rw [a1 _ hl.1, a2 _ hl.1, a4 _ hl.1, a5, a6 c hc]
  exact ⟨⟨b1, b2, by omega, b3, b4⟩, rfl⟩
theorem S_showAt {d t c : Nat} {N : Int} {h : AH} {f : TF} {Q : Option AV → AG → AH → Prop} (hd : 3 ≤ d) (ht : isToy t) (hc : c < 14) (hT : TR h t f) (hf : tyOk f N) (hN : N ≤ 900000) : call d 18 [.inr (.inr (some t)), .inl (h (t + 5) c)] G1 h Q = Q (some (.inl (shF f c))) G1 h := by
  have hl := lie_n hf hc
  obtain ⟨u1, u2⟩ := TR_sh hT hf hN hc
  have q := S_showOf (Q := Q) hd ht hl.1 u1
  rw [u2, Int.toNat_of_nonneg hl.2.1] at q
  rw [hT.2.2.1 c hc]
  exact q
theorem S_showIn {d t c : Nat} {N : Int} {h : AH} {f : TF} {Q : Option AV → AG → AH → Prop} (hd : 4 ≤ d) (ht : isToy t) (hc : c < 14) (hT : TR h t f) (hf : tyOk f N) (hN : N ≤ 900000) : call d 19 [.inr (.inr (some t)), .inl (c : Int)] G1 h Q = Q (some (.inl (shF f c))) G1 h := by
  obtain ⟨d, rfl, hd2⟩ := pos_of hd
  have hs := toy_s ht
  have h1 : ∀ Q, call d 16 [.inr (.inr (some t)), .inl (c : Int)] G1 h Q = Q (some (.inl (h (t + 5) c))) G1 h := fun Q => by rw [S_beadIn (by omega) ht (by omega), Int.toNat_natCast]
  have h2 : ∀ Q, call d 18 [.inr (.inr (some t)), .inl (h (t + 5) c)] G1 h Q = Q (some (.inl (shF f c))) G1 h := fun Q => S_showAt hd2 ht hc hT hf hN
  rw [C_19]
  simp (disch := omega) only [X_19_0, X_19_1, X_19_2, X_19_3, X_19_6, X_19_9, h1, h2, pushR_some]
theorem S_holdsKind {d t c : Nat} {y : Int} {h : AH} {f : TF} {Q : Option AV → AG → AH → Prop} (hd : 2 ≤ d) (ht : isToy t) (hc : c < 14) (hT : TR h t f) (hf : lieOk f) (hk : ∀ i, i < 14 → 0 ≤ f i ∧ f i ≤ 5) (hy : 0 ≤ y ∧ y ≤ 5) : call d 22 [.inr (.inr (some t)), .inl (c : Int), .inl y] G1 h Q = if kIn f c = y ∨ y = 0 ∨ (y = 1 ∧ kIn f c = 4) ∨ (y = 3 ∧ kIn f c = 5) then Q (some (.inl 1)) G1 h else Q (some (.inl 0)) G1 h := by
  obtain ⟨d, rfl, hd2⟩ := pos_of hd
  have hs := toy_s ht
  have hr := toy_r ht
  have hl := hf.1 c hc
  have h1 : ∀ Q, call d 16 [.inr (.inr (some t)), .inl (c : Int)] G1 h Q = Q (some (.inl (f (69 + c)))) G1 h := fun Q => by rw [S_beadIn (by omega) ht (by omega), Int.toNat_natCast, hT.2.2.1 c hc]
  have hk1 : h (t + 1) (f (69 + c)).toNat = kIn f c := hT.1 _ (by omega)
  have hk2 : 0 ≤ kIn f c ∧ kIn f c ≤ 5 := hk _ (by omega)
  rw [C_22]
  by_cases e : kIn f c = y ∨ y = 0 ∨ (y = 1 ∧ kIn f c = 4) ∨ (y = 3 ∧ kIn f c = 5)
  · rw [if_pos e]
    simp (disch := omega) only [X_22_0, X_22_1, X_22_2, X_22_5, X_22_6, X_22_7_t, X_22_7_f, X_22_7, X_22_10, X_22_11, X_22_13_t, X_22_13_f, X_22_13, X_22_16, X_22_17, X_22_20, X_22_21, X_22_22, X_22_23, X_22_26_t, X_22_26_f, X_22_26, X_22_29, X_22_30, X_22_33, X_22_34, h1, hr, hk1, S_isOfKind_t, pushR_some, fixp_n, fixp_i, fixp_r]
  · rw [if_neg e]
    simp (disch := omega) only [X_22_0, X_22_1, X_22_2, X_22_5, X_22_6, X_22_7_t, X_22_7_f, X_22_7, X_22_10, X_22_11, X_22_13_t, X_22_13_f, X_22_13, X_22_16, X_22_17, X_22_20, X_22_21, X_22_22, X_22_23, X_22_26_t, X_22_26_f, X_22_26, X_22_29, X_22_30, X_22_33, X_22_34, h1, hr, hk1, S_isOfKind_f, pushR_some, fixp_n, fixp_i, fixp_r]
theorem S_bars {d t : Nat} {m : Int} {h : AH} {f : TF} {Q : Option AV → AG → AH → Prop} (hd : 4 ≤ d) (ht : isToy t) (hm : 0 ≤ m ∧ m < 4) (hT : TR h t f) (hf : lieOk f) (hk : ∀ i, i < 14 → 0 ≤ f i ∧ f i ≤ 5) : call d 24 [.inr (.inr (some t)), .inl m] G1 h Q = if barM f m then Q (some (.inl 1)) G1 h else Q (some (.inl 0)) G1 h := by
  obtain ⟨d, rfl, hd2⟩ := pos_of hd
  obtain ⟨d, rfl, hd3⟩ := pos_of hd2
  have hs := toy_s ht
  have s0 : ∀ Q, call d 22 [.inr (.inr (some t)), .inl 0, .inl 3] G1 h Q = if stk (kIn f 0) then Q (some (.inl 1)) G1 h else Q (some (.inl 0)) G1 h := fun Q => by
    have := S_holdsKind (c := 0) (y := 3) (Q := Q) hd3 ht (by omega) hT hf hk (by omega)
    rw [show ((0 : Nat) : Int) = 0 from rfl] at this
    rw [this]
    exact ite_iff (by unfold stk; omega)
  have s4 : ∀ Q, call d 22 [.inr (.inr (some t)), .inl 4, .inl 3] G1 h Q = if stk (kIn f 4) then Q (some (.inl 1)) G1 h else Q (some (.inl 0)) G1 h := fun Q => by
    have := S_holdsKind (c := 4) (y := 3) (Q := Q) hd3 ht (by omega) hT hf hk (by omega)
    rw [show ((4 : Nat) : Int) = 4 from rfl] at this
    rw [this]
    exact ite_iff (by unfold stk; omega)
  have s5 : ∀ Q, call d 22 [.inr (.inr (some t)), .inl 4, .inl 5] G1 h Q = if kIn f 4 = 5 then Q (some (.inl 1)) G1 h else Q (some (.inl 0)) G1 h := fun Q => by
    have := S_holdsKind (c := 4) (y := 5) (Q := Q) hd3 ht (by omega) hT hf hk (by omega)
    rw [show ((4 : Nat) : Int) = 4 from rfl] at this
    rw [this]
    exact ite_iff (by omega)
  rw [C_24]
  have hb2 : barM f m ↔ (m < 2 ∧ kIn f 4 = 5) ∨ (2 ≤ m ∧ (stk (kIn f 0) ∨ stk (kIn f 4))) := Iff.rfl
  rcases Classical.propComplete (kIn f 4 = 5) with d5 | d5 <;> rcases Classical.propComplete (stk (kIn f 0)) with d0 | d0 <;> rcases Classical.propComplete (stk (kIn f 4)) with d4 | d4 <;> rcases m4 hm with rfl | rfl | rfl | rfl <;> simp (disch := omega) only [X_24_0, X_24_1, X_24_4_t, X_24_4_f, X_24_4, X_24_7, X_24_8, X_24_9, X_24_10, X_24_11, X_24_14_t, X_24_14_f, X_24_14, X_24_17, X_24_18, X_24_21, X_24_22, S_isMove_t, C_23, X_23_0, X_23_1_t, X_23_1_f, X_23_1, X_23_4, X_23_5, X_23_6, X_23_7, X_23_10, X_23_13, X_23_14, X_23_15, X_23_16, X_23_19_t, X_23_19_f, X_23_19, X_23_22, X_23_23, X_23_24, X_23_25, X_23_28_t, X_23_28_f, X_23_28, X_23_31, X_23_32, X_23_35, X_23_36, s0, s4, s5, pushR_some, hb2, d5, d0, d4, Int.reduceAdd, Int.reduceSub, Int.reduceMul, Int.reduceDiv, Int.reduceMod, Int.reduceNeg, Int.reduceToNat, Int.reduceLT, Int.reduceLE, Int.reduceEq, Nat.reduceAdd, Nat.reduceMul, Nat.reduceEqDiff, reduceIte, or_true, true_or, or_false, false_or, or_self, and_true, true_and, and_false, false_and, not_true_eq_false, not_false_eq_true, ne_eq]
theorem S_bars_n {d t : Nat} {h : AH} {Q : Option AV → AG → AH → Prop} (hd : 4 ≤ d) (ht : isToy t) : call d 24 [.inr (.inr (some t)), .inl (-1)] G1 h Q = Q (some (.inl 0)) G1 h := by
  obtain ⟨d, rfl, hd2⟩ := pos_of hd
  have hs := toy_s ht
  rw [C_24]
  simp (disch := omega) only [X_24_0, X_24_1, X_24_4_t, X_24_4_f, X_24_4, X_24_7, X_24_8, X_24_9, X_24_10, X_24_11, X_24_14_t, X_24_14_f, X_24_14, X_24_17, X_24_18, X_24_21, X_24_22, S_isMove_f, pushR_some]
