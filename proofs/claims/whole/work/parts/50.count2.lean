/-! 50: ring sums, count -/
def rcN (ring k : Nat) : Nat := if ring = 0 ∨ k = 0 ∨ k = 4 then k else if k < 4 then k + 7 else k + 6
theorem rcN_lt : ∀ ring, ring < 2 → ∀ k, k < 8 → rcN ring k < 14 := by decide
theorem rgT_rc : ∀ ring, ring < 2 → ∀ k, k < 8 → rgT (8 * ring + k) = (rcN ring k : Int) := by decide
theorem rc_m {ring k : Nat} : (if (ring : Int) = 0 ∨ (k : Int) = 0 ∨ (k : Int) = 4 then (k : Int) else if (k : Int) < 4 then (k : Int) + 7 else (k : Int) + 6) = (rcN ring k : Int) := by
  unfold rcN
  by_cases h1 : ring = 0 ∨ k = 0 ∨ k = 4
  · rw [if_pos (by omega), if_pos h1]
  · rw [if_neg (by omega), if_neg h1]
    by_cases h2 : k < 4
    · rw [if_pos (by omega), if_pos h2]; rfl
    · rw [if_neg (by omega), if_neg h2]; rfl
def rsF (f : TF) (ring : Nat) : Int := sumF (fun k => shF f (rcN ring k)) 8 0 0
theorem tn8 {r k : Nat} : ((8 : Int) * (r : Int) + (k : Int)).toNat = 8 * r + k := by omega
theorem S_ringShows {d t ring : Nat} {N : Int} {f : TF} {h : AH} {Q : Option AV → AG → AH → Prop} (hd : 4 ≤ d) (ht : isToy t) (hr : ring < 2) (hR : h 1000 = rgT) (hT : TR h t f) (hf : tyOk f N) (hN : N ≤ 900000) : call d 33 [.inr (.inr (some t)), .inl (ring : Int)] G1 h Q = Q (some (.inl (rsF f ring))) G1 h := by
  obtain ⟨d, rfl, hd2⟩ := pos_of hd
  have hs := toy_s ht
  have L : ∀ (n i : Nat) (a : Int), i + n = 8 → wp d 33 4 [some (.inr (.inr (some t))), some (.inl (ring : Int)), some (.inl a), some (.inl (i : Int))] [] G1 h Q = Q (some (.inl (sumF (fun k => shF f (rcN ring k)) n i a))) G1 h := by
    intro n
    induction n with
    | zero =>
      intro i a hi
      obtain rfl : i = 8 := by omega
      simp (disch := omega) only [X_33_4, X_33_0, X_33_1, X_33_2, X_33_3, X_33_5, X_33_7_t, X_33_7_f, X_33_7, X_33_10, X_33_11, X_33_12, X_33_13, X_33_15, X_33_16, X_33_17, X_33_18, X_33_19, X_33_22, X_33_25, X_33_28, X_33_29, X_33_30, X_33_33, X_33_36, X_33_37, sumF]
    | succ n ih =>
      intro i a hi
      have hc := rcN_lt ring hr i (by omega)
      have e1 : h 1000 (8 * ring + i) = (rcN ring i : Int) := by rw [hR]; exact rgT_rc ring hr i (by omega)
      have cS : ∀ Q, call d 18 [.inr (.inr (some t)), .inl (h (t + 5) (rcN ring i))] G1 h Q = Q (some (.inl (shF f (rcN ring i)))) G1 h := fun Q => S_showAt hd2 ht hc hT hf hN
      have q := ih (i + 1) (a + shF f (rcN ring i)) (by omega)
      refine Eq.trans ?_ q
      rw [X_33_4]
      simp (disch := omega) only [X_33_0, X_33_1, X_33_2, X_33_3, X_33_5, X_33_7_t, X_33_7_f, X_33_7, X_33_10, X_33_11, X_33_12, X_33_13, X_33_15, X_33_16, X_33_17, X_33_18, X_33_19, X_33_22, X_33_25, X_33_28, X_33_29, X_33_30, X_33_33, X_33_36, X_33_37, S_ringCell, tn8, e1, S_beadIn, Int.toNat_natCast, cS, pushR_some, fixp_i, natS]
  rw [C_33]
  simp (disch := omega) only [X_33_0, X_33_1, X_33_2, X_33_3, X_33_5, X_33_7_t, X_33_7_f, X_33_7, X_33_10, X_33_11, X_33_12, X_33_13, X_33_15, X_33_16, X_33_17, X_33_18, X_33_19, X_33_22, X_33_25, X_33_28, X_33_29, X_33_30, X_33_33, X_33_36, X_33_37, fixp_i]
  exact L 8 0 0 rfl
theorem S3_ringShows {d a ring : Nat} {N : Int} {h : AH} {Q : Option AV → AG → AH → Prop} (hd : 4 ≤ d) (ha : isA a) (hr : ring < 2) (hf : tyOk (h a) N) (hN : N ≤ 900000) : call d 198 [.inr (.inr (some a)), .inl (ring : Int)] G1 h Q = Q (some (.inl (rsF (h a) ring))) G1 h := by
  obtain ⟨d, rfl, hd2⟩ := pos_of hd
  have hs := isA_s ha
  have L : ∀ (n i : Nat) (b : Int), i + n = 8 → wp d 198 4 [some (.inr (.inr (some a))), some (.inl (ring : Int)), some (.inl b), some (.inl (i : Int))] [] G1 h Q = Q (some (.inl (sumF (fun k => shF (h a) (rcN ring k)) n i b))) G1 h := by
    intro n
    induction n with
    | zero =>
      intro i b hi
      obtain rfl : i = 8 := by omega
      simp (disch := omega) only [X_198_4, X_198_0, X_198_1, X_198_2, X_198_3, X_198_5, X_198_7_t, X_198_7_f, X_198_7, X_198_10, X_198_11, X_198_12, X_198_13, X_198_14, X_198_17, X_198_20, X_198_21, X_198_22, X_198_25, X_198_28, X_198_29, sumF]
    | succ n ih =>
      intro i b hi
      have hc := rcN_lt ring hr i (by omega)
      have cS : ∀ Q, call d 143 [.inr (.inr (some a)), .inl (rcN ring i : Int)] G1 h Q = Q (some (.inl (shF (h a) (rcN ring i)))) G1 h := fun Q => S3_showsIn hd2 ha hc hf hN
      have q := ih (i + 1) (b + shF (h a) (rcN ring i)) (by omega)
      refine Eq.trans ?_ q
      rw [X_198_4]
      simp (disch := omega) only [X_198_0, X_198_1, X_198_2, X_198_3, X_198_5, X_198_7_t, X_198_7_f, X_198_7, X_198_10, X_198_11, X_198_12, X_198_13, X_198_14, X_198_17, X_198_20, X_198_21, X_198_22, X_198_25, X_198_28, X_198_29, S3_ringCell, rc_m, cS, pushR_some, fixp_i, natS]
  rw [C_198]
  simp (disch := omega) only [X_198_0, X_198_1, X_198_2, X_198_3, X_198_5, X_198_7_t, X_198_7_f, X_198_7, X_198_10, X_198_11, X_198_12, X_198_13, X_198_14, X_198_17, X_198_20, X_198_21, X_198_22, X_198_25, X_198_28, X_198_29, fixp_i]
  exact L 8 0 0 rfl
theorem rsF_bd {f : TF} {N : Int} {ring : Nat} (hr : ring < 2) (hf : tyOk f N) (hN : N ≤ 900000) : 0 ≤ rsF f ring ∧ rsF f ring ≤ 72 := by
  have := sumF_bd9 (g := fun k => shF f (rcN ring k)) (n := 8) (i := 0) (a := 0) (fun c c1 c2 => shF_rng hf hN (rcN_lt ring hr c (by omega)))
  unfold rsF
  omega
def brF (f : TF) : Int := (if kIn f 4 = 5 then 1 else 0) + if stk (kIn f 0) ∨ stk (kIn f 4) then 2 else 0
theorem S_barsRing {d : Nat} {f : TF} {h : AH} (hd : 3 ≤ d) (hT : TR h 3 f) (hf : lieOk f) (hk : ∀ i, i < 14 → 0 ≤ f i ∧ f i ≤ 5) : (∀ Q, call d 23 [.inr (.inr (some 3)), .inl 0] G1 h Q = Q (some (.inl (if kIn f 4 = 5 then 1 else 0))) G1 h) ∧ ∀ Q, call d 23 [.inr (.inr (some 3)), .inl 1] G1 h Q = Q (some (.inl (if stk (kIn f 0) ∨ stk (kIn f 4) then 1 else 0))) G1 h := by
  obtain ⟨d, rfl, hd2⟩ := pos_of hd
  have ht : isToy 3 := Or.inl rfl
  have hs := toy_s ht
  have s0 : ∀ Q, call d 22 [.inr (.inr (some 3)), .inl 0, .inl 3] G1 h Q = if stk (kIn f 0) then Q (some (.inl 1)) G1 h else Q (some (.inl 0)) G1 h := fun Q => by
    have := S_holdsKind (c := 0) (y := 3) (Q := Q) hd2 ht (by omega) hT hf hk (by omega)
    rw [show ((0 : Nat) : Int) = 0 from rfl] at this
    rw [this]
    exact ite_iff (by unfold stk; omega)
  have s4 : ∀ Q, call d 22 [.inr (.inr (some 3)), .inl 4, .inl 3] G1 h Q = if stk (kIn f 4) then Q (some (.inl 1)) G1 h else Q (some (.inl 0)) G1 h := fun Q => by
    have := S_holdsKind (c := 4) (y := 3) (Q := Q) hd2 ht (by omega) hT hf hk (by omega)
    rw [show ((4 : Nat) : Int) = 4 from rfl] at this
    rw [this]
    exact ite_iff (by unfold stk; omega)
  have s5 : ∀ Q, call d 22 [.inr (.inr (some 3)), .inl 4, .inl 5] G1 h Q = if kIn f 4 = 5 then Q (some (.inl 1)) G1 h else Q (some (.inl 0)) G1 h := fun Q => by
    have := S_holdsKind (c := 4) (y := 5) (Q := Q) hd2 ht (by omega) hT hf hk (by omega)
    rw [show ((4 : Nat) : Int) = 4 from rfl] at this
    rw [this]
    exact ite_iff (by omega)
  constructor
  · intro Q
    rw [C_23]
    by_cases d5 : kIn f 4 = 5
    · rw [if_pos d5]
      simp (disch := omega) only [X_23_0, X_23_1_t, X_23_1_f, X_23_1, X_23_4, X_23_5, X_23_6, X_23_7, X_23_10, X_23_13, X_23_14, X_23_15, X_23_16, X_23_19_t, X_23_19_f, X_23_19, X_23_22, X_23_23, X_23_24, X_23_25, X_23_28_t, X_23_28_f, X_23_28, X_23_31, X_23_32, X_23_35, X_23_36, s5, if_pos d5, pushR_some]
    · rw [if_neg d5]
      simp (disch := omega) only [X_23_0, X_23_1_t, X_23_1_f, X_23_1, X_23_4, X_23_5, X_23_6, X_23_7, X_23_10, X_23_13, X_23_14, X_23_15, X_23_16, X_23_19_t, X_23_19_f, X_23_19, X_23_22, X_23_23, X_23_24, X_23_25, X_23_28_t, X_23_28_f, X_23_28, X_23_31, X_23_32, X_23_35, X_23_36, s5, if_neg d5, pushR_some]
  · intro Q
    rw [C_23]
    by_cases d0 : stk (kIn f 0)
    · rw [if_pos (Or.inl d0)]
      simp (disch := omega) only [X_23_0, X_23_1_t, X_23_1_f, X_23_1, X_23_4, X_23_5, X_23_6, X_23_7, X_23_10, X_23_13, X_23_14, X_23_15, X_23_16, X_23_19_t, X_23_19_f, X_23_19, X_23_22, X_23_23, X_23_24, X_23_25, X_23_28_t, X_23_28_f, X_23_28, X_23_31, X_23_32, X_23_35, X_23_36, s0, if_pos d0, pushR_some]
    · by_cases d4 : stk (kIn f 4)
      · rw [if_pos (Or.inr d4)]
        simp (disch := omega) only [X_23_0, X_23_1_t, X_23_1_f, X_23_1, X_23_4, X_23_5, X_23_6, X_23_7, X_23_10, X_23_13, X_23_14, X_23_15, X_23_16, X_23_19_t, X_23_19_f, X_23_19, X_23_22, X_23_23, X_23_24, X_23_25, X_23_28_t, X_23_28_f, X_23_28, X_23_31, X_23_32, X_23_35, X_23_36, s0, s4, if_neg d0, if_pos d4, pushR_some]
      · rw [if_neg (fun z => z.elim d0 d4)]
        simp (disch := omega) only [X_23_0, X_23_1_t, X_23_1_f, X_23_1, X_23_4, X_23_5, X_23_6, X_23_7, X_23_10, X_23_13, X_23_14, X_23_15, X_23_16, X_23_19_t, X_23_19_f, X_23_19, X_23_22, X_23_23, X_23_24, X_23_25, X_23_28_t, X_23_28_f, X_23_28, X_23_31, X_23_32, X_23_35, X_23_36, s0, s4, if_neg d0, if_neg d4, pushR_some]
/-- how many beads are of a kind -/
def kdF (f : TF) (y : Int) : Int := sumF (fun i => if f i = y ∨ (y = 1 ∧ f i = 4) ∨ (y = 3 ∧ f i = 5) then (1 : Int) else 0) 14 0 0
def hmF (f : TF) : Int := sumF (fun i => if f (69 + i) = (i : Int) then (1 : Int) else 0) 14 0 0
/-- what is counted of beads -/
def cbF (f : TF) (w : Int) : Int := if w = 3 then brF f else if w = 4 then rsF f 0 else if w = 5 then rsF f 1 else if w = 6 then hmF f else if w = 7 then kdF f 1 else kdF f 3
theorem brF_bd {f : TF} : 0 ≤ brF f ∧ brF f ≤ 3 := by unfold brF; (repeat' split) <;> omega
theorem cbF_bd {f : TF} {w : Int} (hf : tyOk f 40) : 0 ≤ cbF f w ∧ cbF f w ≤ 1000 := by
  have b1 := brF_bd (f := f)
  have b2 := rsF_bd (show 0 < 2 by omega) hf (by omega)
  have b3 := rsF_bd (show 1 < 2 by omega) hf (by omega)
  have b4 : 0 ≤ hmF f ∧ hmF f ≤ 126 := by
    have := sumF_bd9 (g := fun i => if f (69 + i) = (i : Int) then (1 : Int) else 0) (n := 14) (i := 0) (a := 0) (fun c _ _ => by split <;> omega)
    unfold hmF
    omega
  have b5 : ∀ y, 0 ≤ kdF f y ∧ kdF f y ≤ 126 := fun y => by
    have := sumF_bd9 (g := fun i => if f i = y ∨ (y = 1 ∧ f i = 4) ∨ (y = 3 ∧ f i = 5) then (1 : Int) else 0) (n := 14) (i := 0) (a := 0) (fun c _ _ => by split <;> omega)
    unfold kdF
    omega
  have b6 := b5 1
  have b7 := b5 3
  unfold cbF
  (repeat' split) <;> omega
theorem w38 {w : Int} (h : 3 ≤ w ∧ w < 9) : w = 3 ∨ w = 4 ∨ w = 5 ∨ w = 6 ∨ w = 7 ∨ w = 8 := by omega
theorem S_countedOfBeads {d : Nat} {w : Int} {h : AH} {Q : Option AV → AG → AH → Prop} (hd : 5 ≤ d) (hw : 3 ≤ w ∧ w < 9) (hR : h 1000 = rgT) (hT : TR h 3 (h 64)) (hf : tyOk (h 64) 40) : call d 100 [.inr (.inr (some 0)), .inl w] G1 h Q = Q (some (.inl (cbF (h 64) w))) G1 h := by
  obtain ⟨d, rfl, hd2⟩ := pos_of hd
  have g0 := g1_0
  have ht : isToy 3 := Or.inl rfl
  have hs := toy_s ht
  have cb := S_barsRing (d := d) (by omega) hT hf.1 hf.2.2.1
  have cb0 := cb.1
  have cb1 := cb.2
  have r0 : ∀ Q, call d 33 [.inr (.inr (some 3)), .inl 0] G1 h Q = Q (some (.inl (rsF (h 64) 0))) G1 h := fun Q => S_ringShows (ring := 0) hd2 ht (by omega) hR hT hf (by omega)
  have r1 : ∀ Q, call d 33 [.inr (.inr (some 3)), .inl 1] G1 h Q = Q (some (.inl (rsF (h 64) 1))) G1 h := fun Q => S_ringShows (ring := 1) hd2 ht (by omega) hR hT hf (by omega)
  have c6 : ∀ Q, call d 35 [.inr (.inr (some 3))] G1 h Q = Q (some (.inl (hmF (h 64)))) G1 h := fun Q => S_beadsAtHome (by omega) hT hf
  have c7 : ∀ Q, call d 36 [.inr (.inr (some 3)), .inl 1] G1 h Q = Q (some (.inl (kdF (h 64) 1))) G1 h := fun Q => S_beadsOfKind (by omega) hT hf (Or.inl rfl)
  have c8 : ∀ Q, call d 36 [.inr (.inr (some 3)), .inl 3] G1 h Q = Q (some (.inl (kdF (h 64) 3))) G1 h := fun Q => S_beadsOfKind (by omega) hT hf (Or.inr rfl)
  rw [C_100]
  rcases w38 hw with rfl | rfl | rfl | rfl | rfl | rfl
  · show _ = Q (some (.inl (brF (h 64)))) G1 h
    unfold brF
    by_cases e1 : kIn (h 64) 4 = 5
    · by_cases e2 : stk (kIn (h 64) 0) ∨ stk (kIn (h 64) 4)
      · simp (disch := omega) only [X_100_0, X_100_1, X_100_36, X_100_37, X_100_40, X_100_41, X_100_44_t, X_100_44_f, X_100_44, X_100_47, X_100_48, X_100_51, X_100_52, X_100_53, X_100_56, X_100_57, X_100_60_t, X_100_60_f, X_100_60, X_100_63, X_100_64, X_100_67, X_100_68, X_100_69, X_100_70, X_100_71, X_100_74, X_100_75, X_100_78, X_100_79, X_100_80, X_100_83, X_100_84, X_100_87, X_100_88, X_100_89, X_100_92, X_100_95, X_100_96, X_100_97, X_100_100, X_100_101, X_100_104, X_100_105, X_100_106, X_100_109, X_100_110, X_100_113, if_true, if_false, Int.reduceEq, r1_0_2, cb0, cb1, if_pos e1, if_pos e2, pushR_some]
      · exact absurd (Or.inr (Or.inr e1)) e2
    · by_cases e2 : stk (kIn (h 64) 0) ∨ stk (kIn (h 64) 4)
      · simp (disch := omega) only [X_100_0, X_100_1, X_100_36, X_100_37, X_100_40, X_100_41, X_100_44_t, X_100_44_f, X_100_44, X_100_47, X_100_48, X_100_51, X_100_52, X_100_53, X_100_56, X_100_57, X_100_60_t, X_100_60_f, X_100_60, X_100_63, X_100_64, X_100_67, X_100_68, X_100_69, X_100_70, X_100_71, X_100_74, X_100_75, X_100_78, X_100_79, X_100_80, X_100_83, X_100_84, X_100_87, X_100_88, X_100_89, X_100_92, X_100_95, X_100_96, X_100_97, X_100_100, X_100_101, X_100_104, X_100_105, X_100_106, X_100_109, X_100_110, X_100_113, if_true, if_false, Int.reduceEq, r1_0_2, cb0, cb1, if_neg e1, if_pos e2, pushR_some]
      · simp (disch := omega) only [X_100_0, X_100_1, X_100_36, X_100_37, X_100_40, X_100_41, X_100_44_t, X_100_44_f, X_100_44, X_100_47, X_100_48, X_100_51, X_100_52, X_100_53, X_100_56, X_100_57, X_100_60_t, X_100_60_f, X_100_60, X_100_63, X_100_64, X_100_67, X_100_68, X_100_69, X_100_70, X_100_71, X_100_74, X_100_75, X_100_78, X_100_79, X_100_80, X_100_83, X_100_84, X_100_87, X_100_88, X_100_89, X_100_92, X_100_95, X_100_96, X_100_97, X_100_100, X_100_101, X_100_104, X_100_105, X_100_106, X_100_109, X_100_110, X_100_113, if_true, if_false, Int.reduceEq, r1_0_2, cb0, cb1, if_neg e1, if_neg e2, pushR_some]
  · simp (disch := omega) only [X_100_0, X_100_1, X_100_36, X_100_37, X_100_40, X_100_41, X_100_44_t, X_100_44_f, X_100_44, X_100_47, X_100_48, X_100_51, X_100_52, X_100_53, X_100_56, X_100_57, X_100_60_t, X_100_60_f, X_100_60, X_100_63, X_100_64, X_100_67, X_100_68, X_100_69, X_100_70, X_100_71, X_100_74, X_100_75, X_100_78, X_100_79, X_100_80, X_100_83, X_100_84, X_100_87, X_100_88, X_100_89, X_100_92, X_100_95, X_100_96, X_100_97, X_100_100, X_100_101, X_100_104, X_100_105, X_100_106, X_100_109, X_100_110, X_100_113, if_true, if_false, Int.reduceEq, r1_0_2, r0, pushR_some]
    rfl
  · simp (disch := omega) only [X_100_0, X_100_1, X_100_36, X_100_37, X_100_40, X_100_41, X_100_44_t, X_100_44_f, X_100_44, X_100_47, X_100_48, X_100_51, X_100_52, X_100_53, X_100_56, X_100_57, X_100_60_t, X_100_60_f, X_100_60, X_100_63, X_100_64, X_100_67, X_100_68, X_100_69, X_100_70, X_100_71, X_100_74, X_100_75, X_100_78, X_100_79, X_100_80, X_100_83, X_100_84, X_100_87, X_100_88, X_100_89, X_100_92, X_100_95, X_100_96, X_100_97, X_100_100, X_100_101, X_100_104, X_100_105, X_100_106, X_100_109, X_100_110, X_100_113, if_true, if_false, Int.reduceEq, r1_0_2, r1, pushR_some]
    rfl
  · simp (disch := omega) only [X_100_0, X_100_1, X_100_36, X_100_37, X_100_40, X_100_41, X_100_44_t, X_100_44_f, X_100_44, X_100_47, X_100_48, X_100_51, X_100_52, X_100_53, X_100_56, X_100_57, X_100_60_t, X_100_60_f, X_100_60, X_100_63, X_100_64, X_100_67, X_100_68, X_100_69, X_100_70, X_100_71, X_100_74, X_100_75, X_100_78, X_100_79, X_100_80, X_100_83, X_100_84, X_100_87, X_100_88, X_100_89, X_100_92, X_100_95, X_100_96, X_100_97, X_100_100, X_100_101, X_100_104, X_100_105, X_100_106, X_100_109, X_100_110, X_100_113, if_true, if_false, Int.reduceEq, r1_0_2, c6, pushR_some]
    rfl
  · simp (disch := omega) only [X_100_0, X_100_1, X_100_36, X_100_37, X_100_40, X_100_41, X_100_44_t, X_100_44_f, X_100_44, X_100_47, X_100_48, X_100_51, X_100_52, X_100_53, X_100_56, X_100_57, X_100_60_t, X_100_60_f, X_100_60, X_100_63, X_100_64, X_100_67, X_100_68, X_100_69, X_100_70, X_100_71, X_100_74, X_100_75, X_100_78, X_100_79, X_100_80, X_100_83, X_100_84, X_100_87, X_100_88, X_100_89, X_100_92, X_100_95, X_100_96, X_100_97, X_100_100, X_100_101, X_100_104, X_100_105, X_100_106, X_100_109, X_100_110, X_100_113, if_true, if_false, Int.reduceEq, r1_0_2, c7, pushR_some]
    rfl
  · simp (disch := omega) only [X_100_0, X_100_1, X_100_36, X_100_37, X_100_40, X_100_41, X_100_44_t, X_100_44_f, X_100_44, X_100_47, X_100_48, X_100_51, X_100_52, X_100_53, X_100_56, X_100_57, X_100_60_t, X_100_60_f, X_100_60, X_100_63, X_100_64, X_100_67, X_100_68, X_100_69, X_100_70, X_100_71, X_100_74, X_100_75, X_100_78, X_100_79, X_100_80, X_100_83, X_100_84, X_100_87, X_100_88, X_100_89, X_100_92, X_100_95, X_100_96, X_100_97, X_100_100, X_100_101, X_100_104, X_100_105, X_100_106, X_100_109, X_100_110, X_100_113, if_true, if_false, Int.reduceEq, r1_0_2, c8, pushR_some]
    rfl
/-- what is counted -/
def r9 (h : AH) : Int := sumF (fun r => if h 68 r < 0 then (0 : Int) else 1) 6 0 0
def r10 (h : AH) : Int := sumF (fun r => if h 70 r < 0 then (0 : Int) else 1) 4 0 0
def r11 (h : AH) : Int := sumF (fun k => if h 66 k = 0 then (0 : Int) else 1) 3 0 0
def cnF (h : AH) (w : Int) : Int := if w = 9 then r9 h else if w = 10 then r10 h else if w = 11 then r11 h else if h 63 1 = 0 then 0 else if w = 0 then 14 else if w = 1 then h 64 97 else if w = 2 then h 64 28 else cbF (h 64) w
theorem w12 {w : Int} (h : 0 ≤ w ∧ w < 12) : w = 0 ∨ w = 1 ∨ w = 2 ∨ (3 ≤ w ∧ w < 9) ∨ w = 9 ∨ w = 10 ∨ w = 11 := by omega
theorem r10_m {h : AH} : sumF (fun r => if r < 4 ∧ ¬ h 70 r < 0 then (1 : Int) else 0) 6 0 0 = r10 h := by
  unfold r10
  simp only [sumF]
  simp only [Nat.reduceAdd, Nat.reduceLT, Nat.zero_lt_succ, true_and, false_and, if_false, Int.add_zero, Int.zero_add]
  have z : ∀ x : Int, (if ¬ x < 0 then (1 : Int) else 0) = if x < 0 then 0 else 1 := fun x => by
    by_cases e : x < 0
    · rw [if_neg (fun q => q e), if_pos e]
    · rw [if_pos e, if_neg e]
  simp only [z]
theorem r11_m {h : AH} : sumF (fun r => if r < 3 ∧ ¬ h 66 r = 0 then (1 : Int) else 0) 6 0 0 = r11 h := by
  unfold r11
  simp only [sumF]
  simp only [Nat.reduceAdd, Nat.reduceLT, Nat.zero_lt_succ, true_and, false_and, if_false, Int.add_zero, Int.zero_add]
  have z : ∀ x : Int, (if ¬ x = 0 then (1 : Int) else 0) = if x = 0 then 0 else 1 := fun x => by
    by_cases e : x = 0
    · rw [if_neg (fun q => q e), if_pos e]
    · rw [if_pos e, if_neg e]
  simp only [z]
