/-! 25: what the small methods answer -/
theorem S_isRow {d : Nat} {r : Int} {G : AG} {h : AH} {Q : Option AV → AG → AH → Prop} (hd : 1 ≤ d ∧ -2147483648 ≤ r ∧ r < 2147483648) : call d 78 [.inl r] G h Q = if 0 ≤ r ∧ r < 6 then Q (some (.inl 1)) G h else Q (some (.inl 0)) G h := by
  obtain ⟨d, rfl, -⟩ := pos_of hd.1
  rw [C_78]
  simp (disch := omega) only [X_78_0, X_78_1_t, X_78_1_f, X_78_1, X_78_4, X_78_5, X_78_7_t, X_78_7_f, X_78_7, X_78_10, X_78_11, X_78_14, X_78_15]
  split <;> split <;> first | rfl | (split <;> first | rfl | (exfalso; omega)) | (exfalso; omega)
theorem S_beadIn {d t : Nat} {c : Int} {h : AH} {Q : Option AV → AG → AH → Prop} (hd : 1 ≤ d) (ht : isToy t) (hc : 0 ≤ c ∧ c < 14) : call d 16 [.inr (.inr (some t)), .inl c] G1 h Q = Q (some (.inl (h (t + 5) c.toNat))) G1 h := by
  obtain ⟨d, rfl, -⟩ := pos_of hd
  have hs := toy_s ht
  have hr := toy_r ht
  rw [C_16]
  simp (disch := omega) only [X_16_0, X_16_1_t, X_16_1_f, X_16_1, X_16_4, X_16_5, X_16_7_t, X_16_7_f, X_16_7, X_16_10, X_16_11, X_16_14, X_16_15, X_16_16, X_16_19, X_16_20, hr]
theorem S_ringCell {d : Nat} {k : Int} {G : AG} {h : AH} {Q : Option AV → AG → AH → Prop} (hd : 1 ≤ d) (hk : 0 ≤ k ∧ k < 16) : call d 28 [.inl k] G h Q = Q (some (.inl (h 1000 k.toNat))) G h := by
  obtain ⟨d, rfl, -⟩ := pos_of hd
  rw [C_28]
  simp (disch := omega) only [X_28_0, X_28_1_t, X_28_1_f, X_28_1, X_28_4, X_28_5, X_28_8, X_28_9_t, X_28_9_f, X_28_9, X_28_12, X_28_15, X_28_16, X_28_17, X_28_20, X_28_21]
theorem S_lieIn {d t : Nat} {c i : Int} {h : AH} {Q : Option AV → AG → AH → Prop} (hd : 1 ≤ d) (ht : isToy t) (hc : 0 ≤ c ∧ c < 14) (hi : 0 ≤ i ∧ i < 14) : call d 17 [.inr (.inr (some t)), .inl c, .inl i] G1 h Q = Q none G1 (put (put h (t + 5) c.toNat i) (t + 3) i.toNat c) := by
  obtain ⟨d, rfl, -⟩ := pos_of hd
  have hs := toy_s ht
  have hr := toy_r ht
  rw [C_17]
  simp (disch := omega) only [X_17_0, X_17_1_t, X_17_1_f, X_17_1, X_17_4, X_17_5, X_17_7_t, X_17_7_f, X_17_7, X_17_10, X_17_11_t, X_17_11_f, X_17_11, X_17_14, X_17_15, X_17_17_t, X_17_17_f, X_17_17, X_17_20, X_17_21, X_17_24, X_17_25, X_17_26, X_17_27, X_17_28, X_17_31, X_17_32, X_17_33, X_17_34, hr]
