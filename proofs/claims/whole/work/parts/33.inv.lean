/-! 33: what holds between the class's cells and the reference's, call by call -/
/-- the row behind the first n deeds -/
def rp (f : TF) : Nat → TF
  | 0 => bgF f
  | n + 1 => dF (rp f n) (f (29 + n))
def HI (f : TF) : Prop := rp f (f 28).toNat = f
def DR (h : AH) (t : Nat) (f : TF) : Prop := h t 7 = f 28 ∧ 0 ≤ f 28 ∧ f 28 ≤ 40 ∧ ∀ k : Nat, (k : Int) < f 28 → xOk (h (t + 6) k) ∧ f (29 + k) = cd (h (t + 6) k)
def RowR (h : AH) (r : Nat) : Prop := h (22 + 2 * r) 2 = h 68 r ∧ h (22 + 2 * r) 1 = 0 ∧ -1 ≤ h 68 r ∧ h 68 r ≤ 40 ∧ ∀ k : Nat, (k : Int) < h 68 r → h (23 + 2 * r) k = h 67 (40 * r + k) ∧ -2147483648 ≤ h 67 (40 * r + k) ∧ h 67 (40 * r + k) < 2147483648
def TxtR (h : AH) (t : Nat) : Prop := h (34 + 2 * t) 2 = h 70 t ∧ h (34 + 2 * t) 1 = 32 ∧ -1 ≤ h 70 t ∧ h 70 t ≤ 60 ∧ ∀ k : Nat, (k : Int) < h 70 t → h (35 + 2 * t) k = h 69 (60 * t + k) ∧ -128 ≤ h 69 (60 * t + k) ∧ h 69 (60 * t + k) ≤ 127
/-- a toy with beads, told by the row f -/
def FUL (h : AH) (t : Nat) (f : TF) : Prop := TR h t f ∧ tyOk f (f 28) ∧ DR h t f ∧ HI f
def LIV (h : AH) : Prop := h 3 8 = h 63 1 ∧ h 3 7 = h 64 28 ∧ ((h 63 1 = 0 ∧ h 3 6 = 0 ∧ h 3 7 = 0) ∨ (h 63 1 = 1 ∧ FUL h 3 (h 64))) ∧ ∀ s, 98 ≤ s → h 64 s = 0
def kpt (h : AH) (k : Nat) : TF := fun s => if s < 98 then h 65 (98 * k + s) else 0
def KPT (h : AH) (k : Nat) : Prop := h (42 + 7 * k) 8 = h 66 k ∧ (h 66 k = 0 ∨ (h 66 k = 1 ∧ h 63 1 = 1 ∧ FUL h (42 + 7 * k) (kpt h k)))
def FND (n : Nat) (h : AH) : Prop := h 0 9 = h 63 9 ∧ 0 ≤ h 63 9 ∧ h 63 9 ≤ 5 ∧ ∀ j, j < 6 → h 18 j = h 71 j ∧ 0 ≤ h 71 j ∧ h 71 j ≤ n
def ASK (h : AH) : Prop := (h 0 10 = h 63 10 ∧ -2147483648 ≤ h 63 10 ∧ h 63 10 < 2147483648) ∧ (h 0 11 = h 63 11 ∧ -9223372036854775808 ≤ h 63 11 ∧ h 63 11 < 9223372036854775808) ∧ (h 0 12 = h 63 12 ∧ -9223372036854775808 ≤ h 63 12 ∧ h 63 12 < 9223372036854775808)
def INV (n : Nat) (h : AH) : Prop := h 1000 = rgT ∧ (∀ s, 98 ≤ s → h 74 s = 0) ∧ (∀ r, r < 6 → RowR h r) ∧ (∀ t, t < 4 → TxtR h t) ∧ LIV h ∧ (∀ k, k < 3 → KPT h k) ∧ FND n h ∧ ASK h
/-- parts that stay where the cells stay -/
theorem RowR_k {h h' : AH} {r : Nat} (hr : r < 6) (h1 : ∀ a, 22 ≤ a ∧ a < 34 → h' a = h a) (h2 : h' 67 = h 67) (h3 : h' 68 = h 68) (H : RowR h r) : RowR h' r := by
  unfold RowR
  rw [h1 _ (by omega), h1 (23 + 2 * r) (by omega), h2, h3]
  exact H
theorem TxtR_k {h h' : AH} {t : Nat} (hr : t < 4) (h1 : ∀ a, 34 ≤ a ∧ a < 42 → h' a = h a) (h2 : h' 69 = h 69) (h3 : h' 70 = h 70) (H : TxtR h t) : TxtR h' t := by
  unfold TxtR
  rw [h1 _ (by omega), h1 (35 + 2 * t) (by omega), h2, h3]
  exact H
theorem FUL_k {h h' : AH} {t : Nat} {f : TF} (h1 : ∀ a, t ≤ a ∧ a < t + 7 → h' a = h a) (H : FUL h t f) : FUL h' t f := by
  unfold FUL TR DR
  rw [h1 t (by omega), h1 (t + 1) (by omega), h1 (t + 2) (by omega), h1 (t + 3) (by omega), h1 (t + 4) (by omega), h1 (t + 5) (by omega), h1 (t + 6) (by omega)]
  exact H
theorem LIV_k {h h' : AH} (h1 : ∀ a, 3 ≤ a ∧ a < 10 → h' a = h a) (h2 : h' 63 1 = h 63 1) (h3 : h' 64 = h 64) (H : LIV h) : LIV h' := by
  obtain ⟨a, b, c, e⟩ := H
  refine ⟨?_, ?_, ?_, ?_⟩
  · rw [h1 3 (by omega), h2]; exact a
  · rw [h1 3 (by omega), h3]; exact b
  · rw [h1 3 (by omega), h2, h3]
    exact c.imp id (fun z => ⟨z.1, FUL_k h1 z.2⟩)
  · rw [h3]; exact e
theorem KPT_k {h h' : AH} {k : Nat} (hk : k < 3) (h1 : ∀ a, 42 ≤ a ∧ a < 63 → h' a = h a) (h2 : h' 63 1 = h 63 1) (h3 : h' 65 = h 65) (h4 : h' 66 = h 66) (H : KPT h k) : KPT h' k := by
  have e : kpt h' k = kpt h k := by unfold kpt; rw [h3]
  unfold KPT
  rw [h1 _ (by omega), h2, h4, e]
  exact ⟨H.1, H.2.imp id (fun z => ⟨z.1, z.2.1, FUL_k (fun a ha => h1 a (by omega)) z.2.2⟩)⟩
theorem FND_k {n : Nat} {h h' : AH} (h1 : h' 0 9 = h 0 9) (h2 : h' 63 9 = h 63 9) (h3 : h' 18 = h 18) (h4 : h' 71 = h 71) (H : FND n h) : FND (n + 1) h' := by
  unfold FND
  rw [h1, h2, h3, h4]
  exact ⟨H.1, H.2.1, H.2.2.1, fun j hj => by have := H.2.2.2 j hj; omega⟩
theorem ASK_k {h h' : AH} (h1 : ∀ k, 10 ≤ k ∧ k < 13 → h' 0 k = h 0 k) (h2 : ∀ k, 10 ≤ k ∧ k < 13 → h' 63 k = h 63 k) (H : ASK h) : ASK h' := by
  unfold ASK
  rw [h1 10 (by omega), h1 11 (by omega), h1 12 (by omega), h2 10 (by omega), h2 11 (by omega), h2 12 (by omega)]
  exact H
theorem INV_same {n : Nat} {h : AH} (H : INV n h) : INV (n + 1) h := by
  obtain ⟨a1, a2, a3, a4, a5, a6, a7, a8⟩ := H
  exact ⟨a1, a2, a3, a4, a5, a6, FND_k rfl rfl rfl rfl a7, a8⟩
/-- a finding is noted -/
def fnd (h : AH) (w : Int) : AH := put (put h 0 9 w) 18 w.toNat (h 18 w.toNat + 1)
def fn3 (h : AH) (w : Int) : AH := put (put h 63 9 w) 71 w.toNat (h 71 w.toNat + 1)
theorem INV_find {n : Nat} {h : AH} {w : Int} (hw : 1 ≤ w ∧ w ≤ 5) (H : INV n h) : INV (n + 1) (fn3 (fnd h w) w) := by
  obtain ⟨a1, a2, a3, a4, a5, a6, a7, a8⟩ := H
  have eo : ∀ a, ¬ a = 0 → ¬ a = 18 → ¬ a = 63 → ¬ a = 71 → fn3 (fnd h w) w a = h a := fun a z1 z2 z3 z4 => by unfold fn3 fnd; rw [put_row z4, put_row z3, put_row z2, put_row z1]
  have e0 : ∀ k, ¬ k = 9 → fn3 (fnd h w) w 0 k = h 0 k := fun k z => by unfold fn3 fnd; rw [put_na (by omega), put_na (by omega), put_na (by omega), put_nk z]
  have e3 : ∀ k, ¬ k = 9 → fn3 (fnd h w) w 63 k = h 63 k := fun k z => by unfold fn3 fnd; rw [put_na (by omega), put_nk z, put_na (by omega), put_na (by omega)]
  refine ⟨by rw [eo _ (by omega) (by omega) (by omega) (by omega)]; exact a1, by rw [eo _ (by omega) (by omega) (by omega) (by omega)]; exact a2, fun r hr => RowR_k hr (fun a ha => eo a (by omega) (by omega) (by omega) (by omega)) (eo _ (by omega) (by omega) (by omega) (by omega)) (eo _ (by omega) (by omega) (by omega) (by omega)) (a3 r hr), fun t ht => TxtR_k ht (fun a ha => eo a (by omega) (by omega) (by omega) (by omega)) (eo _ (by omega) (by omega) (by omega) (by omega)) (eo _ (by omega) (by omega) (by omega) (by omega)) (a4 t ht), LIV_k (fun a ha => eo a (by omega) (by omega) (by omega) (by omega)) (e3 1 (by omega)) (eo _ (by omega) (by omega) (by omega) (by omega)) a5, fun k hk => KPT_k hk (fun a ha => eo a (by omega) (by omega) (by omega) (by omega)) (e3 1 (by omega)) (eo _ (by omega) (by omega) (by omega) (by omega)) (eo _ (by omega) (by omega) (by omega) (by omega)) (a6 k hk), ?_, ASK_k (fun k hk => e0 k (by omega)) (fun k hk => e3 k (by omega)) a8⟩
  have q0 : fn3 (fnd h w) w 0 9 = w := by unfold fn3 fnd; rw [put_na (by omega), put_na (by omega), put_na (by omega), put_s]
  have q3 : fn3 (fnd h w) w 63 9 = w := by unfold fn3 fnd; rw [put_na (by omega), put_s]
  have q18 : fn3 (fnd h w) w 18 = putR (h 18) w.toNat (h 18 w.toNat + 1) := by unfold fn3 fnd; rw [put_row (by omega), put_row (by omega), put_set, setR_s, put_row (by omega)]
  have q71 : fn3 (fnd h w) w 71 = putR (h 71) w.toNat (h 71 w.toNat + 1) := by
    unfold fn3 fnd
    rw [put_set, setR_s, put_row (by omega), put_row (by omega), put_row (by omega)]
  refine ⟨by rw [q0, q3], by rw [q3]; omega, by rw [q3]; omega, fun j hj => ?_⟩
  rw [q18, q71]
  have b1 := a7.2.2.2 j hj
  by_cases e : j = w.toNat
  · subst e
    rw [putR_s, putR_s]
    omega
  · rw [putR_n e, putR_n e]
    omega
theorem INV_ask {n : Nat} {h : AH} {v : Int} (hv : -2147483648 ≤ v ∧ v < 2147483648) (H : INV n h) : INV (n + 1) (put (put h 0 10 v) 63 10 v) := by
  obtain ⟨a1, a2, a3, a4, a5, a6, a7, a8⟩ := H
  have eo : ∀ a, ¬ a = 0 → ¬ a = 63 → put (put h 0 10 v) 63 10 v a = h a := fun a z1 z2 => by rw [put_row z2, put_row z1]
  have e0 : ∀ k, ¬ k = 10 → put (put h 0 10 v) 63 10 v 0 k = h 0 k := fun k z => by rw [put_na (by omega), put_nk z]
  have e3 : ∀ k, ¬ k = 10 → put (put h 0 10 v) 63 10 v 63 k = h 63 k := fun k z => by rw [put_nk z, put_na (by omega)]
  refine ⟨by rw [eo _ (by omega) (by omega)]; exact a1, by rw [eo _ (by omega) (by omega)]; exact a2, fun r hr => RowR_k hr (fun a ha => eo a (by omega) (by omega)) (eo _ (by omega) (by omega)) (eo _ (by omega) (by omega)) (a3 r hr), fun t ht => TxtR_k ht (fun a ha => eo a (by omega) (by omega)) (eo _ (by omega) (by omega)) (eo _ (by omega) (by omega)) (a4 t ht), LIV_k (fun a ha => eo a (by omega) (by omega)) (e3 1 (by omega)) (eo _ (by omega) (by omega)) a5, fun k hk => KPT_k hk (fun a ha => eo a (by omega) (by omega)) (e3 1 (by omega)) (eo _ (by omega) (by omega)) (eo _ (by omega) (by omega)) (a6 k hk), FND_k (e0 9 (by omega)) (e3 9 (by omega)) (eo _ (by omega) (by omega)) (eo _ (by omega) (by omega)) a7, ?_⟩
  refine ⟨⟨by rw [put_na (by omega), put_s, put_s], by rw [put_s]; omega, by rw [put_s]; omega⟩, ?_, ?_⟩
  · rw [e0 11 (by omega), e3 11 (by omega)]; exact a8.2.1
  · rw [e0 12 (by omega), e3 12 (by omega)]; exact a8.2.2
/-- one call on both sides: the same answer, and all stays tied -/
def OpI (kc km : Nat) (as : List AV) : Prop := ∀ (n : Nat) (h : AH), INV n h → n < 512 → ∃ (r : Int) (h1 h2 : AH), (-2147483648 ≤ r ∧ r < 2147483648) ∧ (∀ Q, call 30 kc (.inr (.inr (some 0)) :: as) G1 h Q = Q (some (.inl r)) G1 h1) ∧ (∀ Q, call 30 km (.inr (.inr (some 63)) :: as) G1 h1 Q = Q (some (.inl r)) G1 h2) ∧ INV (n + 1) h2
def OpL (kc km : Nat) (as : List AV) : Prop := ∀ (n : Nat) (h : AH), INV n h → n < 512 → ∃ (r : Int) (h1 h2 : AH), (∀ Q, call 30 kc (.inr (.inr (some 0)) :: as) G1 h Q = Q (some (.inr (.inl r))) G1 h1) ∧ (∀ Q, call 30 km (.inr (.inr (some 63)) :: as) G1 h1 Q = Q (some (.inr (.inl r))) G1 h2) ∧ INV (n + 1) h2
theorem S_found {d : Nat} {w : Int} {h : AH} {Q : Option AV → AG → AH → Prop} (hd : 1 ≤ d) (hw : 1 ≤ w ∧ w ≤ 5) : call d 87 [.inr (.inr (some 0)), .inl w] G1 h Q = Q (some (.inl (-3))) G1 (fnd h w) := by
  obtain ⟨d, rfl, hd2⟩ := pos_of hd
  have g0 := g1_0
  have g18 := g1_18
  rw [C_87]
  simp (disch := omega) only [X_87_0, X_87_1, X_87_2_t, X_87_2_f, X_87_2, X_87_5, X_87_6, X_87_7_t, X_87_7_f, X_87_7, X_87_10, X_87_11, X_87_12, X_87_15, X_87_16, X_87_19, X_87_20, X_87_21, X_87_22, X_87_23, X_87_24, X_87_25, X_87_27, r1_0_5, put_na]
  rfl
theorem S_told {d : Nat} {v : Int} {h : AH} {Q : Option AV → AG → AH → Prop} (hd : 1 ≤ d) : call d 88 [.inr (.inr (some 0)), .inl v] G1 h Q = Q (some (.inl 1)) G1 (put h 0 10 v) := by
  obtain ⟨d, rfl, hd2⟩ := pos_of hd
  have g0 := g1_0
  rw [C_88]
  simp (disch := omega) only [X_88_0, X_88_1, X_88_2, X_88_5, X_88_6]
theorem S3_finds {d : Nat} {w : Int} {h : AH} {Q : Option AV → AG → AH → Prop} (hd : 1 ≤ d) (hw : 1 ≤ w ∧ w ≤ 5) : call d 120 [.inr (.inr (some 63)), .inl w] G1 h Q = Q (some (.inl (-3))) G1 (fn3 h w) := by
  obtain ⟨d, rfl, hd2⟩ := pos_of hd
  have g0 := g1_63
  have g71 := g1_71
  rw [C_120]
  simp (disch := omega) only [X_120_0, X_120_1, X_120_2, X_120_5, X_120_6, X_120_9, X_120_10, X_120_11, X_120_12, X_120_13, X_120_14, X_120_15, X_120_17, r1_63_8, put_na]
  rfl
theorem S3_asks {d : Nat} {v : Int} {h : AH} {Q : Option AV → AG → AH → Prop} (hd : 1 ≤ d) : call d 121 [.inr (.inr (some 63)), .inl v] G1 h Q = Q (some (.inl 1)) G1 (put h 63 10 v) := by
  obtain ⟨d, rfl, hd2⟩ := pos_of hd
  have g0 := g1_63
  rw [C_121]
  simp (disch := omega) only [X_121_0, X_121_1, X_121_2, X_121_5, X_121_6]
