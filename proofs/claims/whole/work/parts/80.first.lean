def HB5 (h : AH) : AH := (clr (clr (clr (clr (clr (clr (clr (put (clr (clr (clr (clr (clr (clr (clr (clr h 64) 65) 66) 67) 68) 69) 70) 71) 63 12 1) 72) 73) 74) 75) 76) 77) 78)
/-! 80: the reference's constructor; what holds at first -/
theorem T_5a {d : Nat} {h : AH} {Q : Option AV → AG → AH → Prop} : wp (d + 3) 118 0 [some (.inr (.inr (some 63))), none] [] GA5 h Q = wp (d + 3) 118 133 [some (.inr (.inr (some 63))), some (.inl 0)] [] G1 (HB5 h) Q := by
  conv => lhs; simp (disch := first | omega | decide +kernel) only [X_118_0, X_118_1, X_118_4, X_118_5, X_118_7, X_118_9, X_118_12, X_118_13, X_118_16, X_118_18, X_118_21, X_118_22, X_118_23, X_118_25, X_118_28, X_118_29, X_118_32, X_118_34, X_118_37, X_118_38, X_118_40, X_118_42, X_118_45, X_118_46, X_118_49, X_118_51, X_118_54, X_118_55, X_118_56, X_118_58, X_118_61, X_118_62, X_118_64, X_118_66, X_118_69, X_118_70, X_118_71, X_118_74, X_118_75, X_118_77, X_118_79, X_118_82, X_118_83, X_118_85, X_118_87, X_118_90, X_118_91, X_118_93, X_118_95, X_118_98, X_118_99, X_118_101, X_118_103, X_118_106, X_118_107, X_118_110, X_118_112, X_118_115, X_118_116, X_118_118, X_118_120, X_118_123, X_118_124, X_118_126, X_118_128, X_118_131, X_118_132, S_max, rfs_mk2, rfs_sn, rq_1, rq_2, rq_3, gN_mk, gN_srf, gN_GA0, gN_GA1, gN_GA2, gN_GA3, gN_GA4, gN_GA5, pushR_some, pushR_none, fixp_r, fixp_n, fixp_i, Int.reduceAdd, Int.reduceToNat, Nat.reduceAdd, Int.reduceLT, reduceIte]
  unfold HB5
  congr 1 <;> decide +kernel
theorem T_5 {d : Nat} {h : AH} {Q : Option AV → AG → AH → Prop} : call (d + 4) 118 [.inr (.inr (some 63))] GA5 h Q = Q none G1 (HA5 h) := by
  have g63 := g1_63
  have g68 := g1_68
  have g70 := g1_70
  rw [C_118, T_5a]
  simp (disch := first | omega | decide +kernel) only [X_118_133, X_118_154, X_118_134, X_118_136_t, X_118_136_f, X_118_136, X_118_139, X_118_140, X_118_143, X_118_144, X_118_145, X_118_146, X_118_149, X_118_152, X_118_153, X_118_155, X_118_156_t, X_118_156_f, X_118_156, X_118_159, X_118_160, X_118_163, X_118_164, X_118_165, X_118_166, X_118_169, X_118_172, r1_63_5, r1_63_7, fixp_r, fixp_n, fixp_i, Int.reduceAdd, Int.reduceToNat, Nat.reduceAdd]
  rfl

def h01 (L : Nat) (xs : Nat → Int32) : AH := HA5 (clr (HA4 (HA3 (HA2 (HA1 (clr (h00 L xs) 0))))) 63)
theorem r6 {r : Nat} (h : r < 6) : r = 0 ∨ r = 1 ∨ r = 2 ∨ r = 3 ∨ r = 4 ∨ r = 5 := by omega
theorem h01_s {L : Nat} {xs : Nat → Int32} : h01 L xs 1000 = rgT ∧ h01 L xs 1001 = (fun j => (xs j).toInt) ∧ h01 L xs 1002 = (fun _ => (L : Int)) := ⟨rfl, rfl, rfl⟩
theorem h01_r {L : Nat} {xs : Nat → Int32} : ∀ r, r < 6 → h01 L xs (22 + 2 * r) 2 = -1 ∧ h01 L xs (22 + 2 * r) 1 = 0 ∧ h01 L xs 68 r = -1 := fun r hr => by
  rcases r6 hr with rfl | rfl | rfl | rfl | rfl | rfl <;> exact ⟨rfl, rfl, rfl⟩
theorem h01_t {L : Nat} {xs : Nat → Int32} : ∀ r, r < 4 → h01 L xs (34 + 2 * r) 2 = -1 ∧ h01 L xs (34 + 2 * r) 1 = 32 ∧ h01 L xs 70 r = -1 := fun r hr => by
  have : r = 0 ∨ r = 1 ∨ r = 2 ∨ r = 3 := by omega
  rcases this with rfl | rfl | rfl | rfl <;> exact ⟨rfl, rfl, rfl⟩
theorem h01_k {L : Nat} {xs : Nat → Int32} : ∀ k, k < 3 → h01 L xs (42 + 7 * k) 8 = 0 ∧ h01 L xs 66 k = 0 := fun k hk => by
  have : k = 0 ∨ k = 1 ∨ k = 2 := by omega
  rcases this with rfl | rfl | rfl <;> exact ⟨rfl, rfl⟩
theorem h01_1000 {L : Nat} {xs : Nat → Int32} : h01 L xs 1000 = rgT := rfl
theorem h01_74 {L : Nat} {xs : Nat → Int32} {s : Nat} : h01 L xs 74 s = 0 := rfl
theorem h01_64 {L : Nat} {xs : Nat → Int32} {s : Nat} : h01 L xs 64 s = 0 := rfl
theorem h01_18 {L : Nat} {xs : Nat → Int32} {s : Nat} : h01 L xs 18 s = 0 := rfl
theorem h01_71 {L : Nat} {xs : Nat → Int32} {s : Nat} : h01 L xs 71 s = 0 := rfl
theorem h01_3 {L : Nat} {xs : Nat → Int32} : h01 L xs 3 6 = 0 ∧ h01 L xs 3 7 = 0 ∧ h01 L xs 3 8 = 0 := ⟨rfl, rfl, rfl⟩
theorem h01_63 {L : Nat} {xs : Nat → Int32} : h01 L xs 63 1 = 0 ∧ h01 L xs 63 9 = 0 ∧ h01 L xs 63 10 = 0 ∧ h01 L xs 63 11 = 0 ∧ h01 L xs 63 12 = 1 := ⟨rfl, rfl, rfl, rfl, rfl⟩
theorem h01_0 {L : Nat} {xs : Nat → Int32} : h01 L xs 0 9 = 0 ∧ h01 L xs 0 10 = 0 ∧ h01 L xs 0 11 = 0 ∧ h01 L xs 0 12 = 1 := ⟨rfl, rfl, rfl, rfl⟩
theorem INV_0 {L : Nat} {xs : Nat → Int32} : INV 0 (h01 L xs) := by
  have f1 := h01_1000 (L := L) (xs := xs)
  have f2 : ∀ s, h01 L xs 74 s = 0 := fun s => h01_74
  have f3 : ∀ s, h01 L xs 64 s = 0 := fun s => h01_64
  have f4 : ∀ s, h01 L xs 18 s = 0 := fun s => h01_18
  have f5 : ∀ s, h01 L xs 71 s = 0 := fun s => h01_71
  obtain ⟨b1, b2, b3⟩ := h01_3 (L := L) (xs := xs)
  obtain ⟨c1, c2, c3, c4, c5⟩ := h01_63 (L := L) (xs := xs)
  obtain ⟨e1, e2, e3, e4⟩ := h01_0 (L := L) (xs := xs)
  have fr := h01_r (L := L) (xs := xs)
  have ft := h01_t (L := L) (xs := xs)
  have fk := h01_k (L := L) (xs := xs)
  generalize h01 L xs = h at *
  refine ⟨f1, fun s _ => f2 s, fun r hr => ?_, fun t ht => ?_, ?_, fun k hk => ?_, ?_, ?_⟩
  · obtain ⟨a1, a2, a3⟩ := fr r hr
    unfold RowR
    rw [a1, a2, a3]
    exact ⟨rfl, rfl, by omega, by omega, fun k hk => by omega⟩
  · obtain ⟨a1, a2, a3⟩ := ft t ht
    unfold TxtR
    rw [a1, a2, a3]
    exact ⟨rfl, rfl, by omega, by omega, fun k hk => by omega⟩
  · exact ⟨by rw [b3, c1], by rw [b2, f3], Or.inl ⟨c1, b1, b2⟩, fun s _ => f3 s⟩
  · obtain ⟨a1, a2⟩ := fk k hk
    unfold KPT
    rw [a1, a2]
    exact ⟨rfl, Or.inl rfl⟩
  · unfold FND
    rw [e1, c2]
    refine ⟨rfl, by omega, by omega, fun j _ => ?_⟩
    rw [f4, f5]
    exact ⟨rfl, by omega, by omega⟩
  · unfold ASK
    rw [e2, e3, e4, c3, c4, c5]
    omega
