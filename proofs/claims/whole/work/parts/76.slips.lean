/-! 76: moves that slip, the class -/
def sw (val : TF → Int) (g : TF) (p : Int) : Nat → Nat → TF → Int
  | 0, _, f => val f
  | m + 1, i, f => if barM f (g i) then 12 * sw val g p m (i + 1) f else p * sw val g p m (i + 1) f + (12 - p) * sw val g p m (i + 1) (mvF f (g i))
def vlC (c : Nat) (col : Int) (f : TF) : Int := if col = -1 then shF f c else if shF f c = col then 1 else 0
theorem vlC_b {c : Nat} {col N : Int} {f : TF} (hc : c < 14) (hf : tyOk f N) (hN : N ≤ 900000) : 0 ≤ vlC c col f ∧ vlC c col f ≤ 9 := by
  have q := shF_rng hf hN hc
  unfold vlC
  split
  · exact q
  · split <;> omega
theorem sw_b {c : Nat} {col p : Int} {g : TF} (hc : c < 14) (hp : 0 ≤ p ∧ p ≤ 12) : ∀ {m i : Nat} {f : TF} {N : Int}, (∀ k, i ≤ k → k < i + m → 0 ≤ g k ∧ g k < 4) → tyOk f N → N + (m : Int) ≤ 900000 → 0 ≤ sw (vlC c col) g p m i f ∧ sw (vlC c col) g p m i f ≤ 9 * 12 ^ m
  | 0, i, f, N, _, hf, hN => by
    have q := vlC_b (c := c) (col := col) hc hf (by omega)
    unfold sw
    simpa using q
  | m + 1, i, f, N, hg, hf, hN => by
    have q1 := sw_b (c := c) (col := col) (p := p) (g := g) hc hp (m := m) (i := i + 1) (f := f) (fun k a b => hg k (by omega) (by omega)) hf (by omega)
    have e : (9 : Int) * 12 ^ (m + 1) = 12 * (9 * 12 ^ m) := by rw [Int.pow_succ, Int.mul_comm (12 ^ m) 12, Int.mul_left_comm]
    have q2 := sw_b (c := c) (col := col) (p := p) (g := g) hc hp (m := m) (i := i + 1) (f := mvF f (g i)) (fun k a b => hg k (by omega) (by omega)) (mvF_ty (hg i (by omega) (by omega)) hf) (by omega)
    unfold sw
    rw [e]
    generalize (9 : Int) * 12 ^ m = M at *
    generalize sw (vlC c col) g p m (i + 1) f = A at *
    generalize sw (vlC c col) g p m (i + 1) (mvF f (g i)) = B at *
    have a1 := Int.mul_nonneg hp.1 q1.1
    have a2 := Int.mul_nonneg (show 0 ≤ 12 - p by omega) q2.1
    have a3 := Int.mul_le_mul_of_nonneg_left q1.2 hp.1
    have a4 := Int.mul_le_mul_of_nonneg_left q2.2 (show 0 ≤ 12 - p by omega)
    have a5 : p * M + (12 - p) * M = 12 * M := by rw [← Int.add_mul]; congr 1; omega
    split <;> omega
/-- the greatest number that divides both, by rests -/
def euF : Nat → Int → Int → Int
  | 0, a, _ => a
  | n + 1, a, b => if b = 0 then a else euF n b (a % b)
def tmF : Nat → Int → Int → Prop
  | 0, _, b => b = 0
  | n + 1, a, b => b = 0 ∨ tmF n b (a % b)
theorem tm_ok : ∀ (j : Nat) (a b : Int), 0 ≤ a → 0 ≤ b → b < 2 ^ j → tmF (2 * j) a b
  | 0, a, b, ha, hb, h => by
    show b = 0
    have : (2 : Int) ^ 0 = 1 := rfl
    omega
  | j + 1, a, b, ha, hb, h => by
    by_cases e : b = 0
    · exact Or.inl e
    refine Or.inr ?_
    have r1 := Int.emod_nonneg a e
    have r2 := Int.emod_lt_of_pos a (show 0 < b by omega)
    by_cases e2 : a % b = 0
    · exact Or.inl e2
    refine Or.inr ?_
    generalize a % b = r at *
    have s1 := Int.emod_nonneg b e2
    have s2 := Int.emod_lt_of_pos b (show 0 < r by omega)
    have d1 : b % r + r * (b / r) = b := Int.emod_add_mul_ediv b r
    have d2 : 1 ≤ b / r := by
      rw [Int.le_ediv_iff_mul_le (by omega)]
      omega
    have d3 := Int.mul_le_mul_of_nonneg_left d2 (show 0 ≤ r by omega)
    have d4 : (2 : Int) ^ (j + 1) = 2 * 2 ^ j := by rw [Int.pow_succ, Int.mul_comm]
    rw [d4] at h
    exact tm_ok j r (b % r) (by omega) s1 (by omega)
theorem eu_pos : ∀ {n : Nat} {a b : Int}, 0 ≤ a → 0 ≤ b → (0 < a ∨ 0 < b) → tmF n a b → 0 < euF n a b
  | 0, a, b, ha, hb, h, ht => by
    have : b = 0 := ht
    unfold euF
    omega
  | n + 1, a, b, ha, hb, h, ht => by
    unfold euF
    by_cases e : b = 0
    · rw [if_pos e]; omega
    · rw [if_neg e]
      exact eu_pos hb (Int.emod_nonneg a e) (Or.inl (by omega)) (ht.resolve_left e)
theorem eu_le {M : Int} : ∀ {n : Nat} {a b : Int}, 0 ≤ a ∧ a ≤ M → 0 ≤ b ∧ b ≤ M → 0 ≤ euF n a b ∧ euF n a b ≤ M
  | 0, a, b, ha, hb => ha
  | n + 1, a, b, ha, hb => by
    unfold euF
    by_cases e : b = 0
    · rw [if_pos e]; exact ha
    · rw [if_neg e]
      have r1 := Int.emod_nonneg a e
      have r2 := Int.emod_lt_of_pos a (show 0 < b by omega)
      exact eu_le hb (by omega)
theorem S_maxL {d : Nat} {x y : Int} {G : AG} {h : AH} {Q : Option AV → AG → AH → Prop} (hd : 1 ≤ d ∧ (-9223372036854775808 ≤ x ∧ x < 9223372036854775808) ∧ (-9223372036854775808 ≤ y ∧ y < 9223372036854775808)) : call d 208 [.inr (.inl x), .inr (.inl y)] G h Q = Q (some (.inr (.inl (if x < y then y else x)))) G h := by
  obtain ⟨d, rfl, -⟩ := pos_of hd.1
  rw [C_208]
  by_cases e : x < y
  · simp (disch := omega) only [X_208_0, X_208_1, X_208_2, X_208_3_t, X_208_3_f, X_208_3, X_208_6, X_208_7, X_208_10, X_208_11, e, reduceIte]
  · simp (disch := omega) only [X_208_0, X_208_1, X_208_2, X_208_3_t, X_208_3_f, X_208_3, X_208_6, X_208_7, X_208_10, X_208_11, e, reduceIte]
theorem L_gd {d : Nat} {o1 o2 : Int} {h : AH} {Q : Option AV → AG → AH → Prop} (hd : 1 ≤ d) : ∀ (n k : Nat) (a b : Int) (l9 : Option AV), k + n = 200 → 0 ≤ a ∧ a ≤ 9000000000 → 0 ≤ b ∧ b ≤ 9000000000 → wp d 117 9 [some (.inr (.inl o1)), none, some (.inr (.inl o2)), none, some (.inr (.inl a)), none, some (.inr (.inl b)), none, some (.inl (k : Int)), l9, none] [] G1 h Q = Q (some (.inr (.inl (if 1 < euF n a b then euF n a b else 1)))) G1 h := by
  intro n
  induction n with
  | zero =>
    intro k a b l9 hk ha hb
    obtain rfl : k = 200 := by omega
    have e0 : euF 0 a b = a := rfl
    rw [e0]
    simp (disch := omega) only [X_117_9, X_117_0, X_117_1, X_117_3, X_117_4, X_117_6, X_117_7, X_117_11, X_117_14_t, X_117_14_f, X_117_14, X_117_17, X_117_19, X_117_20, X_117_21_t, X_117_21_f, X_117_21, X_117_24, X_117_26, X_117_28, X_117_29, X_117_31, X_117_33, X_117_35, X_117_37, X_117_39, X_117_42, X_117_45, X_117_46, X_117_48, X_117_51, S_maxL, pushR_some]
  | succ n ih =>
    intro k a b l9 hk ha hb
    by_cases e : b = 0
    · have e1 : euF (n + 1) a b = a := by unfold euF; rw [if_pos e]
      rw [e1, X_117_9]
      simp (disch := omega) only [X_117_0, X_117_1, X_117_3, X_117_4, X_117_6, X_117_7, X_117_11, X_117_14_t, X_117_14_f, X_117_14, X_117_17, X_117_19, X_117_20, X_117_21_t, X_117_21_f, X_117_21, X_117_24, X_117_26, X_117_28, X_117_29, X_117_31, X_117_33, X_117_35, X_117_37, X_117_39, X_117_42, X_117_45, X_117_46, X_117_48, X_117_51, S_maxL, pushR_some]
    · have e1 : euF (n + 1) a b = euF n b (a % b) := by conv => lhs; unfold euF; rw [if_neg e]
      have r1 := Int.emod_nonneg a e
      have r2 := Int.emod_lt_of_pos a (show 0 < b by omega)
      rw [e1]
      refine Eq.trans ?_ (ih (k + 1) b (a % b) (some (.inr (.inl (a % b)))) (by omega) hb (by omega))
      conv => lhs; rw [X_117_9]
      conv => lhs; simp (disch := omega) only [X_117_0, X_117_1, X_117_3, X_117_4, X_117_6, X_117_7, X_117_11, X_117_14_t, X_117_14_f, X_117_14, X_117_17, X_117_19, X_117_20, X_117_21_t, X_117_21_f, X_117_21, X_117_24, X_117_26, X_117_28, X_117_29, X_117_31, X_117_33, X_117_35, X_117_37, X_117_39, X_117_42, X_117_45, X_117_46, X_117_48, X_117_51, fixp_n, fixp_i, fixp_l, natS]
theorem S_gd {d : Nat} {a b : Int} {h : AH} {Q : Option AV → AG → AH → Prop} (hd : 2 ≤ d) (ha : 0 ≤ a ∧ a ≤ 9000000000) (hb : 0 ≤ b ∧ b ≤ 9000000000) (h0 : 0 < euF 200 a b) : call d 117 [.inr (.inl a), .inr (.inl b)] G1 h Q = Q (some (.inr (.inl (euF 200 a b)))) G1 h := by
  obtain ⟨d, rfl, hd2⟩ := pos_of hd
  have q := L_gd (d := d) (o1 := a) (o2 := b) (h := h) (Q := Q) hd2 200 0 a b none (by omega) ha hb
  have e : (if 1 < euF 200 a b then euF 200 a b else 1) = euF 200 a b := by split <;> omega
  rw [e] at q
  rw [C_117]
  simp (disch := omega) only [X_117_0, X_117_1, X_117_3, X_117_4, X_117_6, X_117_7, X_117_11, X_117_14_t, X_117_14_f, X_117_14, X_117_17, X_117_19, X_117_20, X_117_21_t, X_117_21_f, X_117_21, X_117_24, X_117_26, X_117_28, X_117_29, X_117_31, X_117_33, X_117_35, X_117_37, X_117_39, X_117_42, X_117_45, X_117_46, X_117_48, X_117_51, fixp_n, fixp_i, fixp_l]
  exact q
theorem S_sw {r L c : Nat} {g : TF} {p col : Int} (hr : r < 6) (hL : L ≤ 8) (hc : c < 14) (hp : 0 ≤ p ∧ p ≤ 12) (hcol : -1 ≤ col ∧ col ≤ 9) (hg : ∀ k, k < L → 0 ≤ g k ∧ g k < 4) : ∀ (m d i : Nat) (f : TF) (N : Int) (h : AH), i + m = L → 6 + m ≤ d → N + (m : Int) ≤ 900000 → h (22 + 2 * r) 2 = (L : Int) → (∀ k, k < L → h (23 + 2 * r) k = g k) → h 1000 = rgT → TR h 10 f → tyOk f N → ∃ h', (∀ Q, call d 116 [.inr (.inr (some 0)), .inr (.inr (some (22 + 2 * r))), .inl (i : Int), .inl (c : Int), .inl col, .inl p] G1 h Q = Q (some (.inr (.inl (sw (vlC c col) g p m i f)))) G1 h') ∧ TR h' 10 f ∧ (∀ a, (a < 10 ∨ 16 ≤ a) → h' a = h a) := by
  have g0 := g1_0
  have hR := rows_r hr
  have hw := hR.2
  have hs := rw_s hw
  have hrw := rwL_r hr
  have t10 : isToy 10 := Or.inr (Or.inl rfl)
  have s10 := toy_s t10
  intro m
  induction m with
  | zero =>
    intro d i f N h hi hd hN e1 e2 eR hT hf
    obtain ⟨d, rfl, hd2⟩ := pos_of hd
    obtain rfl : i = L := by omega
    have sr := shF_rng hf (by omega) hc
    have cS : ∀ Q, call d 19 [.inr (.inr (some 10)), .inl (c : Int)] G1 h Q = Q (some (.inl (shF f c))) G1 h := fun Q => S_showIn (by omega) t10 hc hT hf (by omega)
    refine ⟨h, fun Q => ?_, hT, fun _ _ => rfl⟩
    rw [C_116]
    unfold sw vlC
    by_cases z : col = -1
    · rw [if_pos z]
      simp (disch := omega) only [X_116_0, X_116_1, X_116_2, X_116_5_t, X_116_5_f, X_116_5, X_116_8, X_116_9, X_116_11_t, X_116_11_f, X_116_11, X_116_14, X_116_15, X_116_18, X_116_19, X_116_22, X_116_24, X_116_26, X_116_27_t, X_116_27_f, X_116_27, X_116_30, X_116_32, X_116_33, X_116_34, X_116_36, X_116_38_t, X_116_38_f, X_116_38, X_116_41, X_116_42, X_116_45, X_116_46, X_116_47, X_116_48, X_116_49, X_116_52, X_116_54, X_116_55, X_116_58, X_116_60, X_116_63_t, X_116_63_f, X_116_63, X_116_66, X_116_69, X_116_70, X_116_71, X_116_72, X_116_73, X_116_74, X_116_75, X_116_77, X_116_79, X_116_82, X_116_83, X_116_84, X_116_86_t, X_116_86_f, X_116_86, X_116_89, X_116_90, X_116_93, X_116_95, X_116_96, X_116_97, X_116_98, X_116_99, X_116_100, X_116_101, X_116_102, X_116_104, X_116_106, X_116_109, X_116_110, X_116_112, X_116_114, X_116_116_t, X_116_116_f, X_116_116, X_116_119, X_116_121, X_116_122, X_116_123, X_116_126, X_116_128, X_116_131, X_116_133, X_116_135, X_116_136, X_116_137, X_116_138, X_116_139, X_116_140, X_116_141, X_116_142, X_116_143, X_116_145, X_116_147, X_116_150, X_116_151, X_116_153, X_116_154, X_116_157, X_116_159, X_116_162, X_116_164, X_116_166, X_116_167, e1, r1_0_3, cS, pushR_some, fixp_i]
    · rw [if_neg z]
      by_cases z2 : shF f c = col
      · rw [if_pos z2]
        simp (disch := omega) only [X_116_0, X_116_1, X_116_2, X_116_5_t, X_116_5_f, X_116_5, X_116_8, X_116_9, X_116_11_t, X_116_11_f, X_116_11, X_116_14, X_116_15, X_116_18, X_116_19, X_116_22, X_116_24, X_116_26, X_116_27_t, X_116_27_f, X_116_27, X_116_30, X_116_32, X_116_33, X_116_34, X_116_36, X_116_38_t, X_116_38_f, X_116_38, X_116_41, X_116_42, X_116_45, X_116_46, X_116_47, X_116_48, X_116_49, X_116_52, X_116_54, X_116_55, X_116_58, X_116_60, X_116_63_t, X_116_63_f, X_116_63, X_116_66, X_116_69, X_116_70, X_116_71, X_116_72, X_116_73, X_116_74, X_116_75, X_116_77, X_116_79, X_116_82, X_116_83, X_116_84, X_116_86_t, X_116_86_f, X_116_86, X_116_89, X_116_90, X_116_93, X_116_95, X_116_96, X_116_97, X_116_98, X_116_99, X_116_100, X_116_101, X_116_102, X_116_104, X_116_106, X_116_109, X_116_110, X_116_112, X_116_114, X_116_116_t, X_116_116_f, X_116_116, X_116_119, X_116_121, X_116_122, X_116_123, X_116_126, X_116_128, X_116_131, X_116_133, X_116_135, X_116_136, X_116_137, X_116_138, X_116_139, X_116_140, X_116_141, X_116_142, X_116_143, X_116_145, X_116_147, X_116_150, X_116_151, X_116_153, X_116_154, X_116_157, X_116_159, X_116_162, X_116_164, X_116_166, X_116_167, e1, r1_0_3, cS, pushR_some, fixp_i]
      · rw [if_neg z2]
        simp (disch := omega) only [X_116_0, X_116_1, X_116_2, X_116_5_t, X_116_5_f, X_116_5, X_116_8, X_116_9, X_116_11_t, X_116_11_f, X_116_11, X_116_14, X_116_15, X_116_18, X_116_19, X_116_22, X_116_24, X_116_26, X_116_27_t, X_116_27_f, X_116_27, X_116_30, X_116_32, X_116_33, X_116_34, X_116_36, X_116_38_t, X_116_38_f, X_116_38, X_116_41, X_116_42, X_116_45, X_116_46, X_116_47, X_116_48, X_116_49, X_116_52, X_116_54, X_116_55, X_116_58, X_116_60, X_116_63_t, X_116_63_f, X_116_63, X_116_66, X_116_69, X_116_70, X_116_71, X_116_72, X_116_73, X_116_74, X_116_75, X_116_77, X_116_79, X_116_82, X_116_83, X_116_84, X_116_86_t, X_116_86_f, X_116_86, X_116_89, X_116_90, X_116_93, X_116_95, X_116_96, X_116_97, X_116_98, X_116_99, X_116_100, X_116_101, X_116_102, X_116_104, X_116_106, X_116_109, X_116_110, X_116_112, X_116_114, X_116_116_t, X_116_116_f, X_116_116, X_116_119, X_116_121, X_116_122, X_116_123, X_116_126, X_116_128, X_116_131, X_116_133, X_116_135, X_116_136, X_116_137, X_116_138, X_116_139, X_116_140, X_116_141, X_116_142, X_116_143, X_116_145, X_116_147, X_116_150, X_116_151, X_116_153, X_116_154, X_116_157, X_116_159, X_116_162, X_116_164, X_116_166, X_116_167, e1, r1_0_3, cS, pushR_some, fixp_i]
  | succ m ih =>
    intro d i f N h hi hd hN e1 e2 eR hT hf
    obtain ⟨d, rfl, hd2⟩ := pos_of hd
    have gi := hg i (by omega)
    have q1 : h (22 + 2 * r + 1) i = g i := by rw [q23]; exact e2 i (by omega)
    have cb : ∀ h' : AH, TR h' 10 f → ∀ Q, call d 24 [.inr (.inr (some 10)), .inl (g i)] G1 h' Q = if barM f (g i) then Q (some (.inl 1)) G1 h' else Q (some (.inl 0)) G1 h' := fun h' T' Q => S_bars (by omega) t10 gi T' hf.1 hf.2.2.1
    have cb0 := cb h hT
    obtain ⟨h1, c1, T1, F1⟩ := ih d (i + 1) f N h (by omega) (by omega) (by omega) e1 e2 eR hT hf
    by_cases hb : barM f (g i)
    · refine ⟨h1, fun Q => ?_, T1, F1⟩
      rw [C_116]
      conv => rhs; unfold sw
      rw [if_pos hb]
      simp (disch := omega) only [X_116_0, X_116_1, X_116_2, X_116_5_t, X_116_5_f, X_116_5, X_116_8, X_116_9, X_116_11_t, X_116_11_f, X_116_11, X_116_14, X_116_15, X_116_18, X_116_19, X_116_22, X_116_24, X_116_26, X_116_27_t, X_116_27_f, X_116_27, X_116_30, X_116_32, X_116_33, X_116_34, X_116_36, X_116_38_t, X_116_38_f, X_116_38, X_116_41, X_116_42, X_116_45, X_116_46, X_116_47, X_116_48, X_116_49, X_116_52, X_116_54, X_116_55, X_116_58, X_116_60, X_116_63_t, X_116_63_f, X_116_63, X_116_66, X_116_69, X_116_70, X_116_71, X_116_72, X_116_73, X_116_74, X_116_75, X_116_77, X_116_79, X_116_82, X_116_83, X_116_84, X_116_86_t, X_116_86_f, X_116_86, X_116_89, X_116_90, X_116_93, X_116_95, X_116_96, X_116_97, X_116_98, X_116_99, X_116_100, X_116_101, X_116_102, X_116_104, X_116_106, X_116_109, X_116_110, X_116_112, X_116_114, X_116_116_t, X_116_116_f, X_116_116, X_116_119, X_116_121, X_116_122, X_116_123, X_116_126, X_116_128, X_116_131, X_116_133, X_116_135, X_116_136, X_116_137, X_116_138, X_116_139, X_116_140, X_116_141, X_116_142, X_116_143, X_116_145, X_116_147, X_116_150, X_116_151, X_116_153, X_116_154, X_116_157, X_116_159, X_116_162, X_116_164, X_116_166, X_116_167, e1, r1_0_3, S_get, Int.toNat_natCast, q1, cb0, if_pos hb, natS, c1, pushR_some, fixp_i]
    · have un : sw (vlC c col) g p (m + 1) i f = p * sw (vlC c col) g p m (i + 1) f + (12 - p) * sw (vlC c col) g p m (i + 1) (mvF f (g i)) := by conv => lhs; unfold sw; rw [if_neg hb]
      have second : ∀ hh : AH, TR hh 10 f → (∀ a, (a < 10 ∨ 16 ≤ a) → hh a = h a) → ∃ ha hb hc : AH, (∀ Q, call d 25 [.inr (.inr (some 10)), .inl (g i)] G1 hh Q = Q none G1 ha) ∧ (∀ Q, call d 116 [.inr (.inr (some 0)), .inr (.inr (some (22 + 2 * r))), .inl ((i + 1 : Nat) : Int), .inl (c : Int), .inl col, .inl p] G1 ha Q = Q (some (.inr (.inl (sw (vlC c col) g p m (i + 1) (mvF f (g i)))))) G1 hb) ∧ (∀ Q, call d 26 [.inr (.inr (some 10)), .inl (g i)] G1 hb Q = Q none G1 hc) ∧ TR hc 10 f ∧ (∀ a, (a < 10 ∨ 16 ≤ a) → hc a = h a) := by
        intro hh Th Fh
        obtain ⟨ha, ca, Ta, Fa⟩ := S_makeMove (d := d) (t := 10) (m := g i) (h := hh) (f := f) (by omega) t10 (by rw [Fh _ (by omega), eR]) gi Th hf.1
        have fa : ∀ a, (a < 10 ∨ 16 ≤ a) → ha a = h a := fun a z => by rw [Fa.1 a (by omega), Fh a z]
        obtain ⟨hb', cb', Tb, Fb⟩ := ih d (i + 1) (mvF f (g i)) (N + 1) ha (by omega) (by omega) (by omega) (by rw [fa _ (by omega), e1]) (fun k hk => by rw [fa _ (by omega), e2 k hk]) (by rw [fa _ (by omega), eR]) Ta (mvF_ty gi hf)
        obtain ⟨hc', cc', Tc, Fc⟩ := S_takeBack (d := d) (t := 10) (m := g i) (h := hb') (g := f) (by omega) t10 (by rw [Fb _ (by omega), fa _ (by omega), eR]) gi Tb hf.1
        exact ⟨ha, hb', hc', ca, cb', cc', Tc, fun a z => by rw [Fc.1 a (by omega), Fb a z, fa a z]⟩
      rw [un]
      by_cases p0 : p = 0
      · obtain ⟨ha, hb', hc', ca, cb', cc', Tc, Fc⟩ := second h hT (fun _ _ => rfl)
        refine ⟨hc', fun Q => ?_, Tc, Fc⟩
        rw [C_116]
        simp (disch := omega) only [X_116_0, X_116_1, X_116_2, X_116_5_t, X_116_5_f, X_116_5, X_116_8, X_116_9, X_116_11_t, X_116_11_f, X_116_11, X_116_14, X_116_15, X_116_18, X_116_19, X_116_22, X_116_24, X_116_26, X_116_27_t, X_116_27_f, X_116_27, X_116_30, X_116_32, X_116_33, X_116_34, X_116_36, X_116_38_t, X_116_38_f, X_116_38, X_116_41, X_116_42, X_116_45, X_116_46, X_116_47, X_116_48, X_116_49, X_116_52, X_116_54, X_116_55, X_116_58, X_116_60, X_116_63_t, X_116_63_f, X_116_63, X_116_66, X_116_69, X_116_70, X_116_71, X_116_72, X_116_73, X_116_74, X_116_75, X_116_77, X_116_79, X_116_82, X_116_83, X_116_84, X_116_86_t, X_116_86_f, X_116_86, X_116_89, X_116_90, X_116_93, X_116_95, X_116_96, X_116_97, X_116_98, X_116_99, X_116_100, X_116_101, X_116_102, X_116_104, X_116_106, X_116_109, X_116_110, X_116_112, X_116_114, X_116_116_t, X_116_116_f, X_116_116, X_116_119, X_116_121, X_116_122, X_116_123, X_116_126, X_116_128, X_116_131, X_116_133, X_116_135, X_116_136, X_116_137, X_116_138, X_116_139, X_116_140, X_116_141, X_116_142, X_116_143, X_116_145, X_116_147, X_116_150, X_116_151, X_116_153, X_116_154, X_116_157, X_116_159, X_116_162, X_116_164, X_116_166, X_116_167, e1, r1_0_3, S_get, Int.toNat_natCast, q1, cb0, if_neg hb, natS, ca, cb', cc', pushR_some, pushR_none, fixp_i, fixp_n, fixp_l]
        subst p0
        simp only [Int.zero_mul]
      · by_cases p12 : p = 12
        · refine ⟨h1, fun Q => ?_, T1, F1⟩
          rw [C_116]
          simp (disch := omega) only [X_116_0, X_116_1, X_116_2, X_116_5_t, X_116_5_f, X_116_5, X_116_8, X_116_9, X_116_11_t, X_116_11_f, X_116_11, X_116_14, X_116_15, X_116_18, X_116_19, X_116_22, X_116_24, X_116_26, X_116_27_t, X_116_27_f, X_116_27, X_116_30, X_116_32, X_116_33, X_116_34, X_116_36, X_116_38_t, X_116_38_f, X_116_38, X_116_41, X_116_42, X_116_45, X_116_46, X_116_47, X_116_48, X_116_49, X_116_52, X_116_54, X_116_55, X_116_58, X_116_60, X_116_63_t, X_116_63_f, X_116_63, X_116_66, X_116_69, X_116_70, X_116_71, X_116_72, X_116_73, X_116_74, X_116_75, X_116_77, X_116_79, X_116_82, X_116_83, X_116_84, X_116_86_t, X_116_86_f, X_116_86, X_116_89, X_116_90, X_116_93, X_116_95, X_116_96, X_116_97, X_116_98, X_116_99, X_116_100, X_116_101, X_116_102, X_116_104, X_116_106, X_116_109, X_116_110, X_116_112, X_116_114, X_116_116_t, X_116_116_f, X_116_116, X_116_119, X_116_121, X_116_122, X_116_123, X_116_126, X_116_128, X_116_131, X_116_133, X_116_135, X_116_136, X_116_137, X_116_138, X_116_139, X_116_140, X_116_141, X_116_142, X_116_143, X_116_145, X_116_147, X_116_150, X_116_151, X_116_153, X_116_154, X_116_157, X_116_159, X_116_162, X_116_164, X_116_166, X_116_167, e1, r1_0_3, S_get, Int.toNat_natCast, q1, cb0, if_neg hb, natS, c1, pushR_some, pushR_none, fixp_i, fixp_n, fixp_l]
          subst p12
          simp only [Int.sub_self, Int.zero_mul, Int.add_zero]
        · obtain ⟨ha, hb', hc', ca, cb', cc', Tc, Fc⟩ := second h1 T1 F1
          refine ⟨hc', fun Q => ?_, Tc, Fc⟩
          rw [C_116]
          simp (disch := omega) only [X_116_0, X_116_1, X_116_2, X_116_5_t, X_116_5_f, X_116_5, X_116_8, X_116_9, X_116_11_t, X_116_11_f, X_116_11, X_116_14, X_116_15, X_116_18, X_116_19, X_116_22, X_116_24, X_116_26, X_116_27_t, X_116_27_f, X_116_27, X_116_30, X_116_32, X_116_33, X_116_34, X_116_36, X_116_38_t, X_116_38_f, X_116_38, X_116_41, X_116_42, X_116_45, X_116_46, X_116_47, X_116_48, X_116_49, X_116_52, X_116_54, X_116_55, X_116_58, X_116_60, X_116_63_t, X_116_63_f, X_116_63, X_116_66, X_116_69, X_116_70, X_116_71, X_116_72, X_116_73, X_116_74, X_116_75, X_116_77, X_116_79, X_116_82, X_116_83, X_116_84, X_116_86_t, X_116_86_f, X_116_86, X_116_89, X_116_90, X_116_93, X_116_95, X_116_96, X_116_97, X_116_98, X_116_99, X_116_100, X_116_101, X_116_102, X_116_104, X_116_106, X_116_109, X_116_110, X_116_112, X_116_114, X_116_116_t, X_116_116_f, X_116_116, X_116_119, X_116_121, X_116_122, X_116_123, X_116_126, X_116_128, X_116_131, X_116_133, X_116_135, X_116_136, X_116_137, X_116_138, X_116_139, X_116_140, X_116_141, X_116_142, X_116_143, X_116_145, X_116_147, X_116_150, X_116_151, X_116_153, X_116_154, X_116_157, X_116_159, X_116_162, X_116_164, X_116_166, X_116_167, e1, r1_0_3, S_get, Int.toNat_natCast, q1, cb0, if_neg hb, natS, c1, ca, cb', cc', pushR_some, pushR_none, fixp_i, fixp_n, fixp_l]
