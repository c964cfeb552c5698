/-! 78: chances and means on both sides -/
theorem pw_b : ∀ L : Nat, L < 9 → 1 ≤ (12 : Int) ^ L ∧ (12 : Int) ^ L ≤ 429981696 := by decide
theorem shl_2 : ∀ n : Nat, n < 9 → bShl 1 (n : Int) = ((2 ^ n : Nat) : Int) := by decide
theorem pow_2 : ∀ n : Nat, n < 9 → 2 ^ n ≤ 256 := by decide
theorem S_tell_m {d r : Nat} {c col p : Int} {h : AH} {Q : Option AV → AG → AH → Prop} (hd : 4 ≤ d) (hr : r < 6) (R : RowR h r) (h1 : h 68 r < 0) : call d 115 [.inr (.inr (some 0)), .inr (.inr (some (22 + 2 * r))), .inl c, .inl col, .inl p] G1 h Q = Q (some (.inl (-3))) G1 (fnd h 1) := by
  obtain ⟨d, rfl, hd2⟩ := pos_of hd
  have g0 := g1_0
  have cF : ∀ Q, call d 90 [.inr (.inr (some 0)), .inr (.inr (some (22 + 2 * r))), .inl 1, .inl 8] G1 h Q = Q (some (.inl (-3))) G1 (fnd h 1) := fun Q => S_mr_m (by omega) hr R h1
  rw [C_115]
  simp (disch := omega) only [X_115_0, X_115_1, X_115_2, X_115_3, X_115_5, X_115_8, X_115_10, X_115_12_t, X_115_12_f, X_115_12, X_115_15, X_115_17, X_115_18, X_115_19, X_115_22, X_115_23, X_115_26, X_115_29, X_115_30, X_115_31, X_115_32, X_115_33, X_115_34, X_115_36, X_115_39, X_115_41, X_115_42, X_115_44, X_115_45, X_115_49, X_115_50, X_115_53_t, X_115_53_f, X_115_53, X_115_56, X_115_58, X_115_61, X_115_62, X_115_64, X_115_67, X_115_70, X_115_72, X_115_74, X_115_77, X_115_79, X_115_80, X_115_82, X_115_84, X_115_85, X_115_88, X_115_89, X_115_91, X_115_93, X_115_94, X_115_97, X_115_98, cF, pushR_some, fixp_i]
theorem S_tell_s {d r : Nat} {c col p : Int} {h : AH} {Q : Option AV → AG → AH → Prop} (hd : 4 ≤ d) (hr : r < 6) (R : RowR h r) (h1 : 0 ≤ h 68 r) (h2 : ¬ (1 ≤ h 68 r ∧ h 68 r ≤ 8)) : call d 115 [.inr (.inr (some 0)), .inr (.inr (some (22 + 2 * r))), .inl c, .inl col, .inl p] G1 h Q = Q (some (.inl (-3))) G1 (fnd h 5) := by
  obtain ⟨d, rfl, hd2⟩ := pos_of hd
  have g0 := g1_0
  have cF : ∀ Q, call d 90 [.inr (.inr (some 0)), .inr (.inr (some (22 + 2 * r))), .inl 1, .inl 8] G1 h Q = Q (some (.inl (-3))) G1 (fnd h 5) := fun Q => S_mr_s (by omega) hr R h1 (by omega) h2
  rw [C_115]
  simp (disch := omega) only [X_115_0, X_115_1, X_115_2, X_115_3, X_115_5, X_115_8, X_115_10, X_115_12_t, X_115_12_f, X_115_12, X_115_15, X_115_17, X_115_18, X_115_19, X_115_22, X_115_23, X_115_26, X_115_29, X_115_30, X_115_31, X_115_32, X_115_33, X_115_34, X_115_36, X_115_39, X_115_41, X_115_42, X_115_44, X_115_45, X_115_49, X_115_50, X_115_53_t, X_115_53_f, X_115_53, X_115_56, X_115_58, X_115_61, X_115_62, X_115_64, X_115_67, X_115_70, X_115_72, X_115_74, X_115_77, X_115_79, X_115_80, X_115_82, X_115_84, X_115_85, X_115_88, X_115_89, X_115_91, X_115_93, X_115_94, X_115_97, X_115_98, cF, pushR_some, fixp_i]
theorem S_tell_n {d r : Nat} {c col p : Int} {h : AH} {Q : Option AV → AG → AH → Prop} (hd : 4 ≤ d) (hr : r < 6) (R : RowR h r) (h1 : 1 ≤ h 68 r ∧ h 68 r ≤ 8) (hm : ¬ mvOk h r = true) : call d 115 [.inr (.inr (some 0)), .inr (.inr (some (22 + 2 * r))), .inl c, .inl col, .inl p] G1 h Q = Q (some (.inl (-3))) G1 (fnd h 3) := by
  obtain ⟨d, rfl, hd2⟩ := pos_of hd
  have g0 := g1_0
  have cF : ∀ Q, call d 90 [.inr (.inr (some 0)), .inr (.inr (some (22 + 2 * r))), .inl 1, .inl 8] G1 h Q = Q (some (.inl (-3))) G1 (fnd h 3) := fun Q => by
    rw [S_mr_a (by omega) hr R (by omega) (by omega) h1, if_neg hm]
  rw [C_115]
  simp (disch := omega) only [X_115_0, X_115_1, X_115_2, X_115_3, X_115_5, X_115_8, X_115_10, X_115_12_t, X_115_12_f, X_115_12, X_115_15, X_115_17, X_115_18, X_115_19, X_115_22, X_115_23, X_115_26, X_115_29, X_115_30, X_115_31, X_115_32, X_115_33, X_115_34, X_115_36, X_115_39, X_115_41, X_115_42, X_115_44, X_115_45, X_115_49, X_115_50, X_115_53_t, X_115_53_f, X_115_53, X_115_56, X_115_58, X_115_61, X_115_62, X_115_64, X_115_67, X_115_70, X_115_72, X_115_74, X_115_77, X_115_79, X_115_80, X_115_82, X_115_84, X_115_85, X_115_88, X_115_89, X_115_91, X_115_93, X_115_94, X_115_97, X_115_98, cF, pushR_some, fixp_i]
theorem L_tell {d r L : Nat} {l0 l2 l3 l4 l5 l6 : Option AV} {h : AH} {Q : Option AV → AG → AH → Prop} (hr : r < 6) (hL : L ≤ 40) (h2 : h (22 + 2 * r) 2 = (L : Int)) : ∀ (m k : Nat), k + m = L → wp d 115 47 [l0, some (.inr (.inr (some (22 + 2 * r)))), l2, l3, l4, l5, l6, none, some (.inr (.inl ((12 : Int) ^ k))), none, some (.inl (k : Int)), none] [] G1 h Q = wp d 115 70 [l0, some (.inr (.inr (some (22 + 2 * r)))), l2, l3, l4, l5, l6, none, some (.inr (.inl ((12 : Int) ^ L))), none, some (.inl (L : Int)), none] [] G1 h Q := by
  have hR := rows_r hr
  have hs := rw_s hR.2
  intro m
  induction m with
  | zero =>
    intro k hk
    obtain rfl : k = L := by omega
    conv => lhs; rw [X_115_47]
    conv => lhs; simp (disch := omega) only [X_115_49, X_115_50, X_115_53_t, X_115_53_f, X_115_53, X_115_56, X_115_58, X_115_61, X_115_62, X_115_64, X_115_67, h2]
  | succ m ih =>
    intro k hk
    rw [← ih (k + 1) (by omega), Int.pow_succ]
    conv => lhs; rw [X_115_47]
    conv => lhs; simp (disch := omega) only [X_115_49, X_115_50, X_115_53_t, X_115_53_f, X_115_53, X_115_56, X_115_58, X_115_61, X_115_62, X_115_64, X_115_67, h2, fixp_i, fixp_n, natS]
theorem S_tell {d r L c : Nat} {p col N : Int} {h : AH} (hd : 16 ≤ d) (hr : r < 6) (R : RowR h r) (hL : h 68 r = (L : Int)) (h1 : 1 ≤ L ∧ L ≤ 8) (hm : mvOk h r = true) (hc : c < 14) (hp : 0 ≤ p ∧ p ≤ 12) (hcol : -1 ≤ col ∧ col ≤ 9) (hN : N + 8 ≤ 900000) (hf : tyOk (h 64) N) (eR : h 1000 = rgT) (T3 : TR h 3 (h 64)) (e8 : h 3 8 = 1) : ∃ hb : AH, (∀ Q, call d 115 [.inr (.inr (some 0)), .inr (.inr (some (22 + 2 * r))), .inl (c : Int), .inl col, .inl p] G1 h Q = Q (some (.inl 1)) G1 (put (put hb 0 11 (sw (vlC c col) (fun k => h 67 (40 * r + k)) p L 0 (h 64) / euF 200 (sw (vlC c col) (fun k => h 67 (40 * r + k)) p L 0 (h 64)) (12 ^ L))) 0 12 (12 ^ L / euF 200 (sw (vlC c col) (fun k => h 67 (40 * r + k)) p L 0 (h 64)) (12 ^ L)))) ∧ (∀ a, (a < 10 ∨ 16 ≤ a) → hb a = h a) := by
  obtain ⟨d, rfl, hd2⟩ := pos_of hd
  have g0 := g1_0
  have t3 : isToy 3 := Or.inl rfl
  have t10 : isToy 10 := Or.inr (Or.inl rfl)
  have s10 := toy_s t10
  have hR := rows_r hr
  have hs := rw_s hR.2
  have mk := mvOk_iff hL hm
  have cF : ∀ Q, call d 90 [.inr (.inr (some 0)), .inr (.inr (some (22 + 2 * r))), .inl 1, .inl 8] G1 h Q = Q (some (.inl 0)) G1 h := fun Q => by
    rw [S_mr_a (by omega) hr R (by omega) (by omega) (by omega), if_pos hm]
  obtain ⟨R1, R2, R3, R4, R5⟩ := R
  obtain ⟨ha, cA, TA, FA, A8, A9⟩ := S_takeBeads (d := d) (t := 10) (u := 3) (h := h) (f := h 64) (by omega) t10 t3 (by omega) T3 (Or.inr e8) hf.1
  obtain ⟨hb, cS, TS, FS⟩ := S_sw (r := r) (L := L) (c := c) (g := fun k => h 67 (40 * r + k)) (p := p) (col := col) hr (by omega) hc hp hcol mk L d 0 (h 64) N ha (by omega) (by omega) (by omega) (by rw [FA _ (by omega)]; omega) (fun k hk => by rw [FA _ (by omega)]; exact (R5 k (by omega)).1) (by rw [FA _ (by omega)]; exact eR) TA hf
  have cS' : ∀ Q, call d 116 [.inr (.inr (some 0)), .inr (.inr (some (22 + 2 * r))), .inl 0, .inl (c : Int), .inl col, .inl p] G1 ha Q = _ := cS
  have sb := sw_b (c := c) (col := col) (p := p) (g := fun k => h 67 (40 * r + k)) hc hp (m := L) (i := 0) (f := h 64) (N := N) (fun k k1 k2 => mk k (by omega)) hf (by omega)
  have pb := pw_b L (by omega)
  have fb : ∀ a, (a < 10 ∨ 16 ≤ a) → hb a = h a := fun a z => by rw [FS a z, FA a (by omega)]
  have b2 : hb (22 + 2 * r) 2 = (L : Int) := by rw [fb _ (by omega)]; omega
  refine ⟨hb, fun Q => ?_, fb⟩
  have lp := L_tell (d := d) (r := r) (L := L) (l0 := some (.inr (.inr (some 0)))) (l2 := some (.inl (c : Int))) (l3 := some (.inl col)) (l4 := some (.inl p)) (l5 := some (.inl 0)) (l6 := some (.inr (.inl (sw (vlC c col) (fun k => h 67 (40 * r + k)) p L 0 (h 64))))) (h := hb) (Q := Q) hr (by omega) b2 L 0 (by omega)
  generalize sw (vlC c col) (fun k => h 67 (40 * r + k)) p L 0 (h 64) = A at *
  have h100 : (9000000001 : Int) ≤ 2 ^ 100 := by decide
  generalize (12 : Int) ^ L = B at *
  have e0 := eu_pos (n := 200) (a := A) (b := B) sb.1 (by omega) (Or.inr (by omega)) (tm_ok 100 A B sb.1 (by omega) (by omega))
  have e1 := eu_le (M := 9000000000) (n := 200) (a := A) (b := B) (by omega) (by omega)
  have cG : ∀ Q, call d 117 [.inr (.inl A), .inr (.inl B)] G1 hb Q = Q (some (.inr (.inl (euF 200 A B)))) G1 hb := fun Q => S_gd (by omega) (by omega) (by omega) e0
  rw [C_115]
  simp (disch := omega) only [X_115_0, X_115_1, X_115_2, X_115_3, X_115_5, X_115_8, X_115_10, X_115_12_t, X_115_12_f, X_115_12, X_115_15, X_115_17, X_115_18, X_115_19, X_115_22, X_115_23, X_115_26, X_115_29, X_115_30, X_115_31, X_115_32, X_115_33, X_115_34, X_115_36, X_115_39, X_115_41, X_115_42, X_115_44, X_115_45, r1_0_2, r1_0_3, cF, cA, cS', pushR_some, pushR_none, fixp_i, fixp_n, fixp_l]
  refine lp.trans ?_
  simp (disch := omega) only [X_115_70, X_115_72, X_115_74, X_115_77, X_115_79, X_115_80, X_115_82, X_115_84, X_115_85, X_115_88, X_115_89, X_115_91, X_115_93, X_115_94, X_115_97, X_115_98, cG, pushR_some, fixp_i, fixp_n, fixp_l]
theorem INV_frac {n : Nat} {h : AH} {u l : Int} (hu : -9223372036854775808 ≤ u ∧ u < 9223372036854775808) (hl : -9223372036854775808 ≤ l ∧ l < 9223372036854775808) (H : INV n h) : INV (n + 1) (put (put (put (put h 0 11 u) 0 12 l) 63 11 u) 63 12 l) := by
  obtain ⟨a1, a2, a3, a4, a5, a6, a7, a8⟩ := H
  have eo : ∀ a, ¬ a = 0 → ¬ a = 63 → put (put (put (put h 0 11 u) 0 12 l) 63 11 u) 63 12 l a = h a := fun a z1 z2 => by rw [put_row z2, put_row z2, put_row z1, put_row z1]
  have e0 : ∀ k, ¬ k = 11 → ¬ k = 12 → put (put (put (put h 0 11 u) 0 12 l) 63 11 u) 63 12 l 0 k = h 0 k := fun k z1 z2 => by rw [put_na (by omega), put_na (by omega), put_nk z2, put_nk z1]
  have e3 : ∀ k, ¬ k = 11 → ¬ k = 12 → put (put (put (put h 0 11 u) 0 12 l) 63 11 u) 63 12 l 63 k = h 63 k := fun k z1 z2 => by rw [put_nk z2, put_nk z1, put_na (by omega), put_na (by omega)]
  refine ⟨by rw [eo _ (by omega) (by omega)]; exact a1, by rw [eo _ (by omega) (by omega)]; exact a2, fun r hr => RowR_k hr (fun a ha => eo a (by omega) (by omega)) (eo _ (by omega) (by omega)) (eo _ (by omega) (by omega)) (a3 r hr), fun t ht => TxtR_k ht (fun a ha => eo a (by omega) (by omega)) (eo _ (by omega) (by omega)) (eo _ (by omega) (by omega)) (a4 t ht), LIV_k (fun a ha => eo a (by omega) (by omega)) (e3 1 (by omega) (by omega)) (eo _ (by omega) (by omega)) a5, fun k hk => KPT_k hk (fun a ha => eo a (by omega) (by omega)) (e3 1 (by omega) (by omega)) (eo _ (by omega) (by omega)) (eo _ (by omega) (by omega)) (a6 k hk), FND_k (e0 9 (by omega) (by omega)) (e3 9 (by omega) (by omega)) (eo _ (by omega) (by omega)) (eo _ (by omega) (by omega)) a7, ?_⟩
  refine ⟨?_, ?_, ?_⟩
  · rw [e0 10 (by omega) (by omega), e3 10 (by omega) (by omega)]; exact a8.1
  · have q0 : put (put (put (put h 0 11 u) 0 12 l) 63 11 u) 63 12 l 0 11 = u := by rw [put_na (by omega), put_na (by omega), put_nk (by omega), put_s]
    have q3 : put (put (put (put h 0 11 u) 0 12 l) 63 11 u) 63 12 l 63 11 = u := by rw [put_nk (by omega), put_s]
    rw [q0, q3]; exact ⟨rfl, hu⟩
  · have q0 : put (put (put (put h 0 11 u) 0 12 l) 63 11 u) 63 12 l 0 12 = l := by rw [put_na (by omega), put_na (by omega), put_s]
    have q3 : put (put (put (put h 0 11 u) 0 12 l) 63 11 u) 63 12 l 63 12 = l := by rw [put_s]
    rw [q0, q3]; exact ⟨rfl, hl⟩

theorem M_odds {d r L c : Nat} {col : Int} {p is N : Int} {h : AH} (hd : 4 ≤ d) (hr : r < 6) (hL : L ≤ 8) (hc : c < 14) (hp : 0 ≤ p ∧ p ≤ 12) (hcol : 0 ≤ col ∧ col ≤ 9) (h68 : h 68 r = (L : Int)) (hg : ∀ k, k < L → 0 ≤ h 67 (40 * r + k) ∧ h 67 (40 * r + k) < 4) (hN : N + 8 ≤ 900000) (hf : tyOk (h 64) N) : ∀ (n j : Nat) (F : TF) (l9 : Option AV), j + n = 2 ^ L → (∀ s, 98 ≤ s → F s = h 64 s) → ∃ F' : TF, (∀ s, 98 ≤ s → F' s = h 64 s) ∧ ∃ l9' : Option AV, ∀ Q, wp d 192 71 [some (.inr (.inr (some 63))), some (.inl (r : Int)), some (.inl (c : Int)), some (.inl col), some (.inl p), some (.inl is), some (.inr (.inl (sm (fun s => csW (s : Int) p L 0 1 * vlC c (col) (slT (fun k => h 67 (40 * r + k)) (s : Int) L 0 (h 64))) j))), none, some (.inl (j : Int)), l9, none] [] G1 (setR h 74 F) Q = wp d 192 124 [some (.inr (.inr (some 63))), some (.inl (r : Int)), some (.inl (c : Int)), some (.inl col), some (.inl p), some (.inl is), some (.inr (.inl (sm (fun s => csW (s : Int) p L 0 1 * vlC c (col) (slT (fun k => h 67 (40 * r + k)) (s : Int) L 0 (h 64))) (2 ^ L)))), none, some (.inl ((2 ^ L : Nat) : Int)), l9', none] [] G1 (setR h 74 F') Q := by
  have g0 := g1_63
  have g68 := g1_68
  have sh2 := shl_2 L (by omega)
  have p2 := pow_2 L (by omega)
  generalize 2 ^ L = P at *
  intro n
  induction n with
  | zero =>
    intro j F l9 hj hF
    obtain rfl : j = P := by omega
    refine ⟨F, hF, l9, fun Q => ?_⟩
    conv => lhs; rw [X_192_71]
    conv => lhs; simp (disch := omega) only [X_192_73, X_192_74, X_192_75, X_192_78, X_192_79, X_192_80, X_192_81_t, X_192_81_f, X_192_81, X_192_84, X_192_85, X_192_86, X_192_88, X_192_90, X_192_93, X_192_95, X_192_97, X_192_98, X_192_101, X_192_102, X_192_105, X_192_106_t, X_192_106_f, X_192_106, X_192_109, X_192_111, X_192_114, X_192_115, X_192_116, X_192_118, X_192_121, r1_63_5, setR_n, Int.toNat_natCast, h68, sh2]
  | succ n ih =>
    intro j F l9 hj hF
    have cW := fun Q => S3_slips (d := d) (r := r) (L := L) (S := (j : Int)) (p := p) (N := N) (h := h) (F0 := F) (Q := Q) hd hr (by omega) hp h68 hg hf hF
    have ty := slT_ty (g := fun k => h 67 (40 * r + k)) (S := (j : Int)) (m := L) (k := 0) (f := h 64) (N := N) (fun i a b => hg i (by omega)) hf
    have hh : ∀ s, 98 ≤ s → slT (fun k => h 67 (40 * r + k)) (j : Int) L 0 (h 64) s = h 64 s := fun s hs => slT_hi hs (fun i a b => hg i (by omega)) hf.1
    have sr := shF_rng ty (by omega) hc
    have cS : ∀ Q, call d 143 [.inr (.inr (some 74)), .inl (c : Int)] G1 (setR h 74 (slT (fun k => h 67 (40 * r + k)) (j : Int) L 0 (h 64))) Q = Q (some (.inl (shF (slT (fun k => h 67 (40 * r + k)) (j : Int) L 0 (h 64)) c))) G1 (setR h 74 (slT (fun k => h 67 (40 * r + k)) (j : Int) L 0 (h 64))) := fun Q => by
      rw [S3_showsIn (N := N + (L : Int)) (by omega) (Or.inr rfl) hc (by rw [setR_s]; exact ty) (by omega), setR_s]
    obtain ⟨F', F2, l9', c2⟩ := ih (j + 1) (slT (fun k => h 67 (40 * r + k)) (j : Int) L 0 (h 64)) (some (.inr (.inl (csW (j : Int) p L 0 1)))) (by omega) hh
    have e1 : sm (fun s => csW (s : Int) p L 0 1 * vlC c (col) (slT (fun k => h 67 (40 * r + k)) (s : Int) L 0 (h 64))) (j + 1) = sm (fun s => csW (s : Int) p L 0 1 * vlC c (col) (slT (fun k => h 67 (40 * r + k)) (s : Int) L 0 (h 64))) j + csW (j : Int) p L 0 1 * vlC c (col) (slT (fun k => h 67 (40 * r + k)) (j : Int) L 0 (h 64)) := rfl
    rw [e1] at c2
    by_cases z : shF (slT (fun k => h 67 (40 * r + k)) (j : Int) L 0 (h 64)) c = col
    · have ev : vlC c col (slT (fun k => h 67 (40 * r + k)) (j : Int) L 0 (h 64)) = 1 := by unfold vlC; rw [if_neg (by omega), if_pos z]
      rw [ev, Int.mul_one] at c2
      refine ⟨F', F2, l9', fun Q => ?_⟩
      refine Eq.trans ?_ (c2 Q)
      conv => lhs; rw [X_192_71]
      conv => lhs; simp (disch := omega) only [X_192_73, X_192_74, X_192_75, X_192_78, X_192_79, X_192_80, X_192_81_t, X_192_81_f, X_192_81, X_192_84, X_192_85, X_192_86, X_192_88, X_192_90, X_192_93, X_192_95, X_192_97, X_192_98, X_192_101, X_192_102, X_192_105, X_192_106_t, X_192_106_f, X_192_106, X_192_109, X_192_111, X_192_114, X_192_115, X_192_116, X_192_118, X_192_121, r1_63_5, r1_63_15, setR_n, Int.toNat_natCast, h68, sh2, cW, cS, pushR_some, fixp_i, fixp_n, fixp_l, natS]
    · have ev : vlC c col (slT (fun k => h 67 (40 * r + k)) (j : Int) L 0 (h 64)) = 0 := by unfold vlC; rw [if_neg (by omega), if_neg z]
      rw [ev, Int.mul_zero] at c2
      refine ⟨F', F2, l9', fun Q => ?_⟩
      refine Eq.trans ?_ (c2 Q)
      conv => lhs; rw [X_192_71]
      conv => lhs; simp (disch := omega) only [X_192_73, X_192_74, X_192_75, X_192_78, X_192_79, X_192_80, X_192_81_t, X_192_81_f, X_192_81, X_192_84, X_192_85, X_192_86, X_192_88, X_192_90, X_192_93, X_192_95, X_192_97, X_192_98, X_192_101, X_192_102, X_192_105, X_192_106_t, X_192_106_f, X_192_106, X_192_109, X_192_111, X_192_114, X_192_115, X_192_116, X_192_118, X_192_121, r1_63_5, r1_63_15, setR_n, Int.toNat_natCast, h68, sh2, cW, cS, pushR_some, fixp_i, fixp_n, fixp_l, natS]

theorem M_mid {d r L c : Nat}  {p is N : Int} {h : AH} (hd : 4 ≤ d) (hr : r < 6) (hL : L ≤ 8) (hc : c < 14) (hp : 0 ≤ p ∧ p ≤ 12)  (h68 : h 68 r = (L : Int)) (hg : ∀ k, k < L → 0 ≤ h 67 (40 * r + k) ∧ h 67 (40 * r + k) < 4) (hN : N + 8 ≤ 900000) (hf : tyOk (h 64) N) : ∀ (n j : Nat) (F : TF) (l9 : Option AV), j + n = 2 ^ L → (∀ s, 98 ≤ s → F s = h 64 s) → ∃ F' : TF, (∀ s, 98 ≤ s → F' s = h 64 s) ∧ ∃ l9' : Option AV, ∀ Q, wp d 193 63 [some (.inr (.inr (some 63))), some (.inl (r : Int)), some (.inl (c : Int)), some (.inl p), some (.inl is), some (.inr (.inl (sm (fun s => csW (s : Int) p L 0 1 * vlC c (-1) (slT (fun k => h 67 (40 * r + k)) (s : Int) L 0 (h 64))) j))), none, some (.inl (j : Int)), l9, none] [] G1 (setR h 74 F) Q = wp d 193 109 [some (.inr (.inr (some 63))), some (.inl (r : Int)), some (.inl (c : Int)), some (.inl p), some (.inl is), some (.inr (.inl (sm (fun s => csW (s : Int) p L 0 1 * vlC c (-1) (slT (fun k => h 67 (40 * r + k)) (s : Int) L 0 (h 64))) (2 ^ L)))), none, some (.inl ((2 ^ L : Nat) : Int)), l9', none] [] G1 (setR h 74 F') Q := by
  have g0 := g1_63
  have g68 := g1_68
  have sh2 := shl_2 L (by omega)
  have p2 := pow_2 L (by omega)
  generalize 2 ^ L = P at *
  intro n
  induction n with
  | zero =>
    intro j F l9 hj hF
    obtain rfl : j = P := by omega
    refine ⟨F, hF, l9, fun Q => ?_⟩
    conv => lhs; rw [X_193_63]
    conv => lhs; simp (disch := omega) only [X_193_65, X_193_66, X_193_67, X_193_70, X_193_71, X_193_72, X_193_73_t, X_193_73_f, X_193_73, X_193_76, X_193_77, X_193_78, X_193_80, X_193_81, X_193_84, X_193_86, X_193_88, X_193_90, X_193_91, X_193_94, X_193_95, X_193_98, X_193_99, X_193_100, X_193_101, X_193_103, X_193_106, r1_63_5, setR_n, Int.toNat_natCast, h68, sh2]
  | succ n ih =>
    intro j F l9 hj hF
    have cW := fun Q => S3_slips (d := d) (r := r) (L := L) (S := (j : Int)) (p := p) (N := N) (h := h) (F0 := F) (Q := Q) hd hr (by omega) hp h68 hg hf hF
    have ty := slT_ty (g := fun k => h 67 (40 * r + k)) (S := (j : Int)) (m := L) (k := 0) (f := h 64) (N := N) (fun i a b => hg i (by omega)) hf
    have hh : ∀ s, 98 ≤ s → slT (fun k => h 67 (40 * r + k)) (j : Int) L 0 (h 64) s = h 64 s := fun s hs => slT_hi hs (fun i a b => hg i (by omega)) hf.1
    have sr := shF_rng ty (by omega) hc
    have cS : ∀ Q, call d 143 [.inr (.inr (some 74)), .inl (c : Int)] G1 (setR h 74 (slT (fun k => h 67 (40 * r + k)) (j : Int) L 0 (h 64))) Q = Q (some (.inl (shF (slT (fun k => h 67 (40 * r + k)) (j : Int) L 0 (h 64)) c))) G1 (setR h 74 (slT (fun k => h 67 (40 * r + k)) (j : Int) L 0 (h 64))) := fun Q => by
      rw [S3_showsIn (N := N + (L : Int)) (by omega) (Or.inr rfl) hc (by rw [setR_s]; exact ty) (by omega), setR_s]
    obtain ⟨F', F2, l9', c2⟩ := ih (j + 1) (slT (fun k => h 67 (40 * r + k)) (j : Int) L 0 (h 64)) (some (.inr (.inl (csW (j : Int) p L 0 1)))) (by omega) hh
    have e1 : sm (fun s => csW (s : Int) p L 0 1 * vlC c (-1) (slT (fun k => h 67 (40 * r + k)) (s : Int) L 0 (h 64))) (j + 1) = sm (fun s => csW (s : Int) p L 0 1 * vlC c (-1) (slT (fun k => h 67 (40 * r + k)) (s : Int) L 0 (h 64))) j + csW (j : Int) p L 0 1 * vlC c (-1) (slT (fun k => h 67 (40 * r + k)) (j : Int) L 0 (h 64)) := rfl
    rw [e1] at c2
    have ev : vlC c (-1) (slT (fun k => h 67 (40 * r + k)) (j : Int) L 0 (h 64)) = shF (slT (fun k => h 67 (40 * r + k)) (j : Int) L 0 (h 64)) c := by unfold vlC; rw [if_pos rfl]
    rw [ev] at c2
    refine ⟨F', F2, l9', fun Q => ?_⟩
    refine Eq.trans ?_ (c2 Q)
    conv => lhs; rw [X_193_63]
    conv => lhs; simp (disch := omega) only [X_193_65, X_193_66, X_193_67, X_193_70, X_193_71, X_193_72, X_193_73_t, X_193_73_f, X_193_73, X_193_76, X_193_77, X_193_78, X_193_80, X_193_81, X_193_84, X_193_86, X_193_88, X_193_90, X_193_91, X_193_94, X_193_95, X_193_98, X_193_99, X_193_100, X_193_101, X_193_103, X_193_106, r1_63_5, r1_63_15, setR_n, Int.toNat_natCast, h68, sh2, cW, cS, pushR_some, fixp_i, fixp_n, fixp_l, natS]

theorem Op_odds {x y w z : Int} (h_x : -2147483648 ≤ x ∧ x < 2147483648) (h_y : -2147483648 ≤ y ∧ y < 2147483648) (h_w : -2147483648 ≤ w ∧ w < 2147483648) (h_z : -2147483648 ≤ z ∧ z < 2147483648) : OpI 67 192 [.inl x, .inl y, .inl w, .inl z] := by
  intro n h H hn
  have g0 := g1_0
  have g1 := g1_1
  have g3 := g1_3
  have g63 := g1_63
  have g68 := g1_68
  rcases LIV_c H with L | L
  · refine OpI_same (r := -4) (by omega) H (fun Q => ?_) (fun Q => ?_)
    · rw [C_67]
      simp (disch := omega) only [X_67_0, X_67_1, X_67_4, X_67_7_t, X_67_7_f, X_67_7, X_67_10, X_67_12, X_67_13, X_67_14, X_67_17_t, X_67_17_f, X_67_17, X_67_20, X_67_21, X_67_24_t, X_67_24_f, X_67_24, X_67_27, X_67_28, X_67_31_t, X_67_31_f, X_67_31, X_67_34, X_67_36, X_67_37, X_67_39, X_67_42_t, X_67_42_f, X_67_42, X_67_45, X_67_46, X_67_47, X_67_48, X_67_49, X_67_52, X_67_53, X_67_54, X_67_55, X_67_56, X_67_58, X_67_61, r1_0_2]
    · rw [C_192]
      simp (disch := omega) only [X_192_0, X_192_1, X_192_4_t, X_192_4_f, X_192_4, X_192_7, X_192_9, X_192_10, X_192_11, X_192_14_t, X_192_14_f, X_192_14, X_192_17, X_192_18, X_192_21_t, X_192_21_f, X_192_21, X_192_24, X_192_25, X_192_28_t, X_192_28_f, X_192_28, X_192_31, X_192_33, X_192_34, X_192_35, X_192_38, X_192_41_t, X_192_41_f, X_192_41, X_192_44, X_192_45, X_192_46, X_192_47, X_192_48, X_192_49, X_192_51, X_192_54, X_192_56, X_192_58, X_192_59_t, X_192_59_f, X_192_59, X_192_62, X_192_64, X_192_65, X_192_66, X_192_68, X_192_69, X_192_73, X_192_74, X_192_75, X_192_78, X_192_79, X_192_80, X_192_81_t, X_192_81_f, X_192_81, X_192_84, X_192_85, X_192_86, X_192_88, X_192_90, X_192_93, X_192_95, X_192_97, X_192_98, X_192_101, X_192_102, X_192_105, X_192_106_t, X_192_106_f, X_192_106, X_192_109, X_192_111, X_192_114, X_192_115, X_192_116, X_192_118, X_192_121, X_192_124, X_192_125, X_192_127, X_192_128, X_192_131, X_192_132, X_192_133, X_192_136, X_192_139, X_192_140]
  obtain ⟨L1, L2, L3⟩ := L
  by_cases h1 : 0 ≤ x ∧ x < 6
  case neg =>
    refine OpI_same (r := -1) (by omega) H (fun Q => ?_) (fun Q => ?_)
    · rw [C_67]
      simp (disch := omega) only [X_67_0, X_67_1, X_67_4, X_67_7_t, X_67_7_f, X_67_7, X_67_10, X_67_12, X_67_13, X_67_14, X_67_17_t, X_67_17_f, X_67_17, X_67_20, X_67_21, X_67_24_t, X_67_24_f, X_67_24, X_67_27, X_67_28, X_67_31_t, X_67_31_f, X_67_31, X_67_34, X_67_36, X_67_37, X_67_39, X_67_42_t, X_67_42_f, X_67_42, X_67_45, X_67_46, X_67_47, X_67_48, X_67_49, X_67_52, X_67_53, X_67_54, X_67_55, X_67_56, X_67_58, X_67_61, r1_0_2, S_isRow_f, pushR_some]
    · rw [C_192]
      simp (disch := omega) only [X_192_0, X_192_1, X_192_4_t, X_192_4_f, X_192_4, X_192_7, X_192_9, X_192_10, X_192_11, X_192_14_t, X_192_14_f, X_192_14, X_192_17, X_192_18, X_192_21_t, X_192_21_f, X_192_21, X_192_24, X_192_25, X_192_28_t, X_192_28_f, X_192_28, X_192_31, X_192_33, X_192_34, X_192_35, X_192_38, X_192_41_t, X_192_41_f, X_192_41, X_192_44, X_192_45, X_192_46, X_192_47, X_192_48, X_192_49, X_192_51, X_192_54, X_192_56, X_192_58, X_192_59_t, X_192_59_f, X_192_59, X_192_62, X_192_64, X_192_65, X_192_66, X_192_68, X_192_69, X_192_73, X_192_74, X_192_75, X_192_78, X_192_79, X_192_80, X_192_81_t, X_192_81_f, X_192_81, X_192_84, X_192_85, X_192_86, X_192_88, X_192_90, X_192_93, X_192_95, X_192_97, X_192_98, X_192_101, X_192_102, X_192_105, X_192_106_t, X_192_106_f, X_192_106, X_192_109, X_192_111, X_192_114, X_192_115, X_192_116, X_192_118, X_192_121, X_192_124, X_192_125, X_192_127, X_192_128, X_192_131, X_192_132, X_192_133, X_192_136, X_192_139, X_192_140, S3_isRow_f, pushR_some]
  by_cases hy : 0 ≤ y ∧ y < 14
  case neg =>
    refine OpI_same (r := -1) (by omega) H (fun Q => ?_) (fun Q => ?_)
    · rw [C_67]
      simp (disch := omega) only [X_67_0, X_67_1, X_67_4, X_67_7_t, X_67_7_f, X_67_7, X_67_10, X_67_12, X_67_13, X_67_14, X_67_17_t, X_67_17_f, X_67_17, X_67_20, X_67_21, X_67_24_t, X_67_24_f, X_67_24, X_67_27, X_67_28, X_67_31_t, X_67_31_f, X_67_31, X_67_34, X_67_36, X_67_37, X_67_39, X_67_42_t, X_67_42_f, X_67_42, X_67_45, X_67_46, X_67_47, X_67_48, X_67_49, X_67_52, X_67_53, X_67_54, X_67_55, X_67_56, X_67_58, X_67_61, r1_0_2, S_isRow_t, S_isCell_f, pushR_some]
    · rw [C_192]
      simp (disch := omega) only [X_192_0, X_192_1, X_192_4_t, X_192_4_f, X_192_4, X_192_7, X_192_9, X_192_10, X_192_11, X_192_14_t, X_192_14_f, X_192_14, X_192_17, X_192_18, X_192_21_t, X_192_21_f, X_192_21, X_192_24, X_192_25, X_192_28_t, X_192_28_f, X_192_28, X_192_31, X_192_33, X_192_34, X_192_35, X_192_38, X_192_41_t, X_192_41_f, X_192_41, X_192_44, X_192_45, X_192_46, X_192_47, X_192_48, X_192_49, X_192_51, X_192_54, X_192_56, X_192_58, X_192_59_t, X_192_59_f, X_192_59, X_192_62, X_192_64, X_192_65, X_192_66, X_192_68, X_192_69, X_192_73, X_192_74, X_192_75, X_192_78, X_192_79, X_192_80, X_192_81_t, X_192_81_f, X_192_81, X_192_84, X_192_85, X_192_86, X_192_88, X_192_90, X_192_93, X_192_95, X_192_97, X_192_98, X_192_101, X_192_102, X_192_105, X_192_106_t, X_192_106_f, X_192_106, X_192_109, X_192_111, X_192_114, X_192_115, X_192_116, X_192_118, X_192_121, X_192_124, X_192_125, X_192_127, X_192_128, X_192_131, X_192_132, X_192_133, X_192_136, X_192_139, X_192_140, S3_isRow_t, S3_isCell_f, pushR_some]
  by_cases hw : 0 ≤ w ∧ w < 10
  case neg =>
    refine OpI_same (r := -1) (by omega) H (fun Q => ?_) (fun Q => ?_)
    · rw [C_67]
      simp (disch := omega) only [X_67_0, X_67_1, X_67_4, X_67_7_t, X_67_7_f, X_67_7, X_67_10, X_67_12, X_67_13, X_67_14, X_67_17_t, X_67_17_f, X_67_17, X_67_20, X_67_21, X_67_24_t, X_67_24_f, X_67_24, X_67_27, X_67_28, X_67_31_t, X_67_31_f, X_67_31, X_67_34, X_67_36, X_67_37, X_67_39, X_67_42_t, X_67_42_f, X_67_42, X_67_45, X_67_46, X_67_47, X_67_48, X_67_49, X_67_52, X_67_53, X_67_54, X_67_55, X_67_56, X_67_58, X_67_61, r1_0_2, S_isRow_t, S_isCell_t, S_isColour_f, pushR_some]
    · rw [C_192]
      simp (disch := omega) only [X_192_0, X_192_1, X_192_4_t, X_192_4_f, X_192_4, X_192_7, X_192_9, X_192_10, X_192_11, X_192_14_t, X_192_14_f, X_192_14, X_192_17, X_192_18, X_192_21_t, X_192_21_f, X_192_21, X_192_24, X_192_25, X_192_28_t, X_192_28_f, X_192_28, X_192_31, X_192_33, X_192_34, X_192_35, X_192_38, X_192_41_t, X_192_41_f, X_192_41, X_192_44, X_192_45, X_192_46, X_192_47, X_192_48, X_192_49, X_192_51, X_192_54, X_192_56, X_192_58, X_192_59_t, X_192_59_f, X_192_59, X_192_62, X_192_64, X_192_65, X_192_66, X_192_68, X_192_69, X_192_73, X_192_74, X_192_75, X_192_78, X_192_79, X_192_80, X_192_81_t, X_192_81_f, X_192_81, X_192_84, X_192_85, X_192_86, X_192_88, X_192_90, X_192_93, X_192_95, X_192_97, X_192_98, X_192_101, X_192_102, X_192_105, X_192_106_t, X_192_106_f, X_192_106, X_192_109, X_192_111, X_192_114, X_192_115, X_192_116, X_192_118, X_192_121, X_192_124, X_192_125, X_192_127, X_192_128, X_192_131, X_192_132, X_192_133, X_192_136, X_192_139, X_192_140, S3_isRow_t, S3_isCell_t, S3_isColour_f, pushR_some]
  by_cases hz : 0 ≤ z ∧ z ≤ 12
  case neg =>
    refine OpI_same (r := -1) (by omega) H (fun Q => ?_) (fun Q => ?_)
    · rw [C_67]
      simp (disch := omega) only [X_67_0, X_67_1, X_67_4, X_67_7_t, X_67_7_f, X_67_7, X_67_10, X_67_12, X_67_13, X_67_14, X_67_17_t, X_67_17_f, X_67_17, X_67_20, X_67_21, X_67_24_t, X_67_24_f, X_67_24, X_67_27, X_67_28, X_67_31_t, X_67_31_f, X_67_31, X_67_34, X_67_36, X_67_37, X_67_39, X_67_42_t, X_67_42_f, X_67_42, X_67_45, X_67_46, X_67_47, X_67_48, X_67_49, X_67_52, X_67_53, X_67_54, X_67_55, X_67_56, X_67_58, X_67_61, r1_0_2, S_isRow_t, S_isCell_t, S_isColour_t, S_isWithin_f, pushR_some]
    · rw [C_192]
      simp (disch := omega) only [X_192_0, X_192_1, X_192_4_t, X_192_4_f, X_192_4, X_192_7, X_192_9, X_192_10, X_192_11, X_192_14_t, X_192_14_f, X_192_14, X_192_17, X_192_18, X_192_21_t, X_192_21_f, X_192_21, X_192_24, X_192_25, X_192_28_t, X_192_28_f, X_192_28, X_192_31, X_192_33, X_192_34, X_192_35, X_192_38, X_192_41_t, X_192_41_f, X_192_41, X_192_44, X_192_45, X_192_46, X_192_47, X_192_48, X_192_49, X_192_51, X_192_54, X_192_56, X_192_58, X_192_59_t, X_192_59_f, X_192_59, X_192_62, X_192_64, X_192_65, X_192_66, X_192_68, X_192_69, X_192_73, X_192_74, X_192_75, X_192_78, X_192_79, X_192_80, X_192_81_t, X_192_81_f, X_192_81, X_192_84, X_192_85, X_192_86, X_192_88, X_192_90, X_192_93, X_192_95, X_192_97, X_192_98, X_192_101, X_192_102, X_192_105, X_192_106_t, X_192_106_f, X_192_106, X_192_109, X_192_111, X_192_114, X_192_115, X_192_116, X_192_118, X_192_121, X_192_124, X_192_125, X_192_127, X_192_128, X_192_131, X_192_132, X_192_133, X_192_136, X_192_139, X_192_140, S3_isRow_t, S3_isCell_t, S3_isColour_t, S3_in_f, pushR_some]
  obtain ⟨r, rfl⟩ := nat_of h1.1
  obtain ⟨c, rfl⟩ := nat_of hy.1
  have hr : r < 6 := by omega
  have hc : c < 14 := by omega
  have hR := rows_r hr
  have sR := rw_s hR.2
  have R := H.2.2.1 r hr
  have R' := R
  obtain ⟨R1, R2, R3, R4, R5⟩ := R'
  by_cases h2 : h 68 r < 0
  case pos =>
    have cF : ∀ Q, call 29 115 [.inr (.inr (some 0)), .inr (.inr (some (22 + 2 * r))), .inl (c : Int), .inl (w), .inl z] G1 h Q = Q (some (.inl (-3))) G1 (fnd h 1) := fun Q => S_tell_m (by omega) hr R h2
    have w68 : fnd h 1 68 r = h 68 r := by rw [fnd_o (by omega) (by omega)]
    have w63 : fnd h 1 63 1 = 1 := by rw [fnd_o (by omega) (by omega)]; exact L1
    refine OpI_find (w := 1) (by omega) H (fun Q => ?_) (fun Q => ?_)
    · rw [C_67]
      simp (disch := omega) only [X_67_0, X_67_1, X_67_4, X_67_7_t, X_67_7_f, X_67_7, X_67_10, X_67_12, X_67_13, X_67_14, X_67_17_t, X_67_17_f, X_67_17, X_67_20, X_67_21, X_67_24_t, X_67_24_f, X_67_24, X_67_27, X_67_28, X_67_31_t, X_67_31_f, X_67_31, X_67_34, X_67_36, X_67_37, X_67_39, X_67_42_t, X_67_42_f, X_67_42, X_67_45, X_67_46, X_67_47, X_67_48, X_67_49, X_67_52, X_67_53, X_67_54, X_67_55, X_67_56, X_67_58, X_67_61, r1_0_2, r1_0_0, S_isRow_t, S_isCell_t, S_isColour_t, S_isWithin_t, Int.toNat_natCast, hR.1, cF, pushR_some, fixp_i]
    · rw [C_192]
      simp (disch := omega) only [X_192_0, X_192_1, X_192_4_t, X_192_4_f, X_192_4, X_192_7, X_192_9, X_192_10, X_192_11, X_192_14_t, X_192_14_f, X_192_14, X_192_17, X_192_18, X_192_21_t, X_192_21_f, X_192_21, X_192_24, X_192_25, X_192_28_t, X_192_28_f, X_192_28, X_192_31, X_192_33, X_192_34, X_192_35, X_192_38, X_192_41_t, X_192_41_f, X_192_41, X_192_44, X_192_45, X_192_46, X_192_47, X_192_48, X_192_49, X_192_51, X_192_54, X_192_56, X_192_58, X_192_59_t, X_192_59_f, X_192_59, X_192_62, X_192_64, X_192_65, X_192_66, X_192_68, X_192_69, X_192_73, X_192_74, X_192_75, X_192_78, X_192_79, X_192_80, X_192_81_t, X_192_81_f, X_192_81, X_192_84, X_192_85, X_192_86, X_192_88, X_192_90, X_192_93, X_192_95, X_192_97, X_192_98, X_192_101, X_192_102, X_192_105, X_192_106_t, X_192_106_f, X_192_106, X_192_109, X_192_111, X_192_114, X_192_115, X_192_116, X_192_118, X_192_121, X_192_124, X_192_125, X_192_127, X_192_128, X_192_131, X_192_132, X_192_133, X_192_136, X_192_139, X_192_140, S3_isRow_t, S3_isCell_t, S3_isColour_t, S3_in_t, S3_la_m, pushR_some, fixp_i]
  by_cases h3 : 1 ≤ h 68 r ∧ h 68 r ≤ 8
  case neg =>
    have cF : ∀ Q, call 29 115 [.inr (.inr (some 0)), .inr (.inr (some (22 + 2 * r))), .inl (c : Int), .inl (w), .inl z] G1 h Q = Q (some (.inl (-3))) G1 (fnd h 5) := fun Q => S_tell_s (by omega) hr R (by omega) h3
    have w68 : fnd h 5 68 r = h 68 r := by rw [fnd_o (by omega) (by omega)]
    have w63 : fnd h 5 63 1 = 1 := by rw [fnd_o (by omega) (by omega)]; exact L1
    refine OpI_find (w := 5) (by omega) H (fun Q => ?_) (fun Q => ?_)
    · rw [C_67]
      simp (disch := omega) only [X_67_0, X_67_1, X_67_4, X_67_7_t, X_67_7_f, X_67_7, X_67_10, X_67_12, X_67_13, X_67_14, X_67_17_t, X_67_17_f, X_67_17, X_67_20, X_67_21, X_67_24_t, X_67_24_f, X_67_24, X_67_27, X_67_28, X_67_31_t, X_67_31_f, X_67_31, X_67_34, X_67_36, X_67_37, X_67_39, X_67_42_t, X_67_42_f, X_67_42, X_67_45, X_67_46, X_67_47, X_67_48, X_67_49, X_67_52, X_67_53, X_67_54, X_67_55, X_67_56, X_67_58, X_67_61, r1_0_2, r1_0_0, S_isRow_t, S_isCell_t, S_isColour_t, S_isWithin_t, Int.toNat_natCast, hR.1, cF, pushR_some, fixp_i]
    · rw [C_192]
      simp (disch := omega) only [X_192_0, X_192_1, X_192_4_t, X_192_4_f, X_192_4, X_192_7, X_192_9, X_192_10, X_192_11, X_192_14_t, X_192_14_f, X_192_14, X_192_17, X_192_18, X_192_21_t, X_192_21_f, X_192_21, X_192_24, X_192_25, X_192_28_t, X_192_28_f, X_192_28, X_192_31, X_192_33, X_192_34, X_192_35, X_192_38, X_192_41_t, X_192_41_f, X_192_41, X_192_44, X_192_45, X_192_46, X_192_47, X_192_48, X_192_49, X_192_51, X_192_54, X_192_56, X_192_58, X_192_59_t, X_192_59_f, X_192_59, X_192_62, X_192_64, X_192_65, X_192_66, X_192_68, X_192_69, X_192_73, X_192_74, X_192_75, X_192_78, X_192_79, X_192_80, X_192_81_t, X_192_81_f, X_192_81, X_192_84, X_192_85, X_192_86, X_192_88, X_192_90, X_192_93, X_192_95, X_192_97, X_192_98, X_192_101, X_192_102, X_192_105, X_192_106_t, X_192_106_f, X_192_106, X_192_109, X_192_111, X_192_114, X_192_115, X_192_116, X_192_118, X_192_121, X_192_124, X_192_125, X_192_127, X_192_128, X_192_131, X_192_132, X_192_133, X_192_136, X_192_139, X_192_140, S3_isRow_t, S3_isCell_t, S3_isColour_t, S3_in_t, S3_la_s, pushR_some, fixp_i]
  have cL : ∀ (h' : AH) Q, h' 67 = h 67 → h' 68 = h 68 → call 29 166 [.inr (.inr (some 63)), .inl (r : Int), .inl 1, .inl 8] G1 h' Q = if mvOk h r = true then Q (some (.inl 1)) G1 h' else Q (some (.inl (-3))) G1 (fn3 h' 3) := fun h' Q e1 e2 => by
    have e3 : mvOk h' r = mvOk h r := by unfold mvOk; rw [e1, e2]
    rw [S3_la_a (by omega) hr (by rw [e2]; omega) (by rw [e2]; omega) (by omega) (by rw [e2]; omega) (fun k hk => by rw [e1]; rw [e2] at hk; exact (R5 k hk).2), e3]
  by_cases hm : mvOk h r = true
  case neg =>
    have cF : ∀ Q, call 29 115 [.inr (.inr (some 0)), .inr (.inr (some (22 + 2 * r))), .inl (c : Int), .inl (w), .inl z] G1 h Q = Q (some (.inl (-3))) G1 (fnd h 3) := fun Q => S_tell_n (by omega) hr R h3 hm
    have cL2 := fun Q => cL (fnd h 3) Q (fnd_o (by omega) (by omega)) (fnd_o (by omega) (by omega))
    have w63 : fnd h 3 63 1 = 1 := by rw [fnd_o (by omega) (by omega)]; exact L1
    refine OpI_find (w := 3) (by omega) H (fun Q => ?_) (fun Q => ?_)
    · rw [C_67]
      simp (disch := omega) only [X_67_0, X_67_1, X_67_4, X_67_7_t, X_67_7_f, X_67_7, X_67_10, X_67_12, X_67_13, X_67_14, X_67_17_t, X_67_17_f, X_67_17, X_67_20, X_67_21, X_67_24_t, X_67_24_f, X_67_24, X_67_27, X_67_28, X_67_31_t, X_67_31_f, X_67_31, X_67_34, X_67_36, X_67_37, X_67_39, X_67_42_t, X_67_42_f, X_67_42, X_67_45, X_67_46, X_67_47, X_67_48, X_67_49, X_67_52, X_67_53, X_67_54, X_67_55, X_67_56, X_67_58, X_67_61, r1_0_2, r1_0_0, S_isRow_t, S_isCell_t, S_isColour_t, S_isWithin_t, Int.toNat_natCast, hR.1, cF, pushR_some, fixp_i]
    · rw [C_192]
      simp (disch := omega) only [X_192_0, X_192_1, X_192_4_t, X_192_4_f, X_192_4, X_192_7, X_192_9, X_192_10, X_192_11, X_192_14_t, X_192_14_f, X_192_14, X_192_17, X_192_18, X_192_21_t, X_192_21_f, X_192_21, X_192_24, X_192_25, X_192_28_t, X_192_28_f, X_192_28, X_192_31, X_192_33, X_192_34, X_192_35, X_192_38, X_192_41_t, X_192_41_f, X_192_41, X_192_44, X_192_45, X_192_46, X_192_47, X_192_48, X_192_49, X_192_51, X_192_54, X_192_56, X_192_58, X_192_59_t, X_192_59_f, X_192_59, X_192_62, X_192_64, X_192_65, X_192_66, X_192_68, X_192_69, X_192_73, X_192_74, X_192_75, X_192_78, X_192_79, X_192_80, X_192_81_t, X_192_81_f, X_192_81, X_192_84, X_192_85, X_192_86, X_192_88, X_192_90, X_192_93, X_192_95, X_192_97, X_192_98, X_192_101, X_192_102, X_192_105, X_192_106_t, X_192_106_f, X_192_106, X_192_109, X_192_111, X_192_114, X_192_115, X_192_116, X_192_118, X_192_121, X_192_124, X_192_125, X_192_127, X_192_128, X_192_131, X_192_132, X_192_133, X_192_136, X_192_139, X_192_140, S3_isRow_t, S3_isCell_t, S3_isColour_t, S3_in_t, cL2, if_neg hm, pushR_some, fixp_i]
  obtain ⟨LL, hLL⟩ := nat_of (x := h 68 r) (by omega)
  have mk := mvOk_iff hLL hm
  have hf := FUL_ty L3
  have h0 := H.2.2.2.2.1.2.2.2
  obtain ⟨hb, cT, FB⟩ := S_tell (d := 29) (r := r) (L := LL) (c := c) (p := z) (col := w) (N := 40) (h := h) (by omega) hr R hLL (by omega) hm hc hz (by omega) (by omega) hf H.1 L3.1 L2
  have sb := sw_b (c := c) (col := w) (p := z) (g := fun k => h 67 (40 * r + k)) hc hz (m := LL) (i := 0) (f := h 64) (N := 40) (fun k k1 k2 => mk k (by omega)) hf (by omega)
  have pb := pw_b LL (by omega)
  have es := sum_sw (val := vlC c (w)) (g := fun k => h 67 (40 * r + k)) (p := z) (L := LL) (f := h 64) (by omega)
  generalize eA : sw (vlC c (w)) (fun k => h 67 (40 * r + k)) z LL 0 (h 64) = A at *
  have fr := fun (h' : AH) (Q : Option AV → AG → AH → Prop) => S3_frac (d := 29) (A := A) (B := 12 ^ LL) (h := h') (Q := Q) (by omega) (by omega) (by omega)
  have wh := fun (h' : AH) (Q : Option AV → AG → AH → Prop) => S3_whole (d := 29) (L := LL) (h := h') (Q := Q) (by omega) (by omega)
  have h100 : (9000000001 : Int) ≤ 2 ^ 100 := by decide
  generalize (12 : Int) ^ LL = B at *
  have e0 := eu_pos (n := 200) (a := A) (b := B) sb.1 (by omega) (Or.inr (by omega)) (tm_ok 100 A B sb.1 (by omega) (by omega))
  have e1 := eu_le (M := 9000000000) (n := 200) (a := A) (b := B) (by omega) (by omega)
  have u1 := Int.ediv_nonneg (a := A) (b := euF 200 A B) sb.1 (by omega)
  have u2 := Int.ediv_le_self (a := A) (b := euF 200 A B) sb.1
  have v1 := Int.ediv_nonneg (a := B) (b := euF 200 A B) (by omega) (by omega)
  have v2 := Int.ediv_le_self (a := B) (b := euF 200 A B) (by omega)
  generalize A / euF 200 A B = u at *
  generalize B / euF 200 A B = l at *
  generalize eD : put (put hb 0 11 u) 0 12 l = hd at cT
  have fd : ∀ a, ¬ a = 0 → (a < 10 ∨ 16 ≤ a) → hd a = h a := fun a a0 a1 => by rw [← eD, put_row a0, put_row a0, FB a a1]
  have d67 : hd 67 = h 67 := fd 67 (by omega) (by omega)
  have d68 : hd 68 = h 68 := fd 68 (by omega) (by omega)
  have d64 : hd 64 = h 64 := fd 64 (by omega) (by omega)
  have d63 : hd 63 1 = 1 := by rw [fd 63 (by omega) (by omega), L1]
  have d74 : ∀ s, 98 ≤ s → hd 74 s = 0 := fun s hs => by rw [fd 74 (by omega) (by omega)]; exact H.2.1 s hs
  have cL2 := fun Q => cL hd Q d67 d68
  obtain ⟨F, qF, l9, q1⟩ := M_odds (d := 29) (r := r) (L := LL) (c := c) (col := w) (p := z) (is := 1) (N := 40) (h := hd) (by omega) hr (by omega) hc hz (by omega) (by rw [d68]; exact hLL) (by rw [d67]; exact mk) (by omega) (by rw [d64]; exact hf) (2 ^ LL) 0 (hd 74) none (by omega) (fun s hs => by rw [d74 s hs, d64, h0 s hs])
  rw [d67, d64, setR_e, es] at q1
  have s68 : setR hd 74 F 68 r = (LL : Int) := by rw [setR_n (by omega), d68]; exact hLL
  refine ⟨1, hd, put (put (setR hd 74 F) 63 11 u) 63 12 l, by omega, fun Q => ?_, fun Q => ?_, INV_scr (INV_frac (u := u) (l := l) (by omega) (by omega) H) (fun a a1 => ?_) (fun s hs => ?_)⟩
  · rw [C_67]
    simp (disch := omega) only [X_67_0, X_67_1, X_67_4, X_67_7_t, X_67_7_f, X_67_7, X_67_10, X_67_12, X_67_13, X_67_14, X_67_17_t, X_67_17_f, X_67_17, X_67_20, X_67_21, X_67_24_t, X_67_24_f, X_67_24, X_67_27, X_67_28, X_67_31_t, X_67_31_f, X_67_31, X_67_34, X_67_36, X_67_37, X_67_39, X_67_42_t, X_67_42_f, X_67_42, X_67_45, X_67_46, X_67_47, X_67_48, X_67_49, X_67_52, X_67_53, X_67_54, X_67_55, X_67_56, X_67_58, X_67_61, r1_0_2, r1_0_0, S_isRow_t, S_isCell_t, S_isColour_t, S_isWithin_t, Int.toNat_natCast, hR.1, cT, pushR_some, pushR_none, fixp_i]
  · rw [C_192]
    simp (disch := omega) only [X_192_0, X_192_1, X_192_4_t, X_192_4_f, X_192_4, X_192_7, X_192_9, X_192_10, X_192_11, X_192_14_t, X_192_14_f, X_192_14, X_192_17, X_192_18, X_192_21_t, X_192_21_f, X_192_21, X_192_24, X_192_25, X_192_28_t, X_192_28_f, X_192_28, X_192_31, X_192_33, X_192_34, X_192_35, X_192_38, X_192_41_t, X_192_41_f, X_192_41, X_192_44, X_192_45, X_192_46, X_192_47, X_192_48, X_192_49, X_192_51, X_192_54, X_192_56, X_192_58, X_192_59_t, X_192_59_f, X_192_59, X_192_62, X_192_64, X_192_65, X_192_66, X_192_68, X_192_69, X_192_73, X_192_74, X_192_75, X_192_78, X_192_79, X_192_80, X_192_81_t, X_192_81_f, X_192_81, X_192_84, X_192_85, X_192_86, X_192_88, X_192_90, X_192_93, X_192_95, X_192_97, X_192_98, X_192_101, X_192_102, X_192_105, X_192_106_t, X_192_106_f, X_192_106, X_192_109, X_192_111, X_192_114, X_192_115, X_192_116, X_192_118, X_192_121, X_192_124, X_192_125, X_192_127, X_192_128, X_192_131, X_192_132, X_192_133, X_192_136, X_192_139, X_192_140, S3_isRow_t, S3_isCell_t, S3_isColour_t, S3_in_t, cL2, if_pos hm, pushR_some, pushR_none, fixp_i, fixp_n, fixp_l]
    refine (q1 Q).trans ?_
    simp (disch := omega) only [X_192_0, X_192_1, X_192_4_t, X_192_4_f, X_192_4, X_192_7, X_192_9, X_192_10, X_192_11, X_192_14_t, X_192_14_f, X_192_14, X_192_17, X_192_18, X_192_21_t, X_192_21_f, X_192_21, X_192_24, X_192_25, X_192_28_t, X_192_28_f, X_192_28, X_192_31, X_192_33, X_192_34, X_192_35, X_192_38, X_192_41_t, X_192_41_f, X_192_41, X_192_44, X_192_45, X_192_46, X_192_47, X_192_48, X_192_49, X_192_51, X_192_54, X_192_56, X_192_58, X_192_59_t, X_192_59_f, X_192_59, X_192_62, X_192_64, X_192_65, X_192_66, X_192_68, X_192_69, X_192_73, X_192_74, X_192_75, X_192_78, X_192_79, X_192_80, X_192_81_t, X_192_81_f, X_192_81, X_192_84, X_192_85, X_192_86, X_192_88, X_192_90, X_192_93, X_192_95, X_192_97, X_192_98, X_192_101, X_192_102, X_192_105, X_192_106_t, X_192_106_f, X_192_106, X_192_109, X_192_111, X_192_114, X_192_115, X_192_116, X_192_118, X_192_121, X_192_124, X_192_125, X_192_127, X_192_128, X_192_131, X_192_132, X_192_133, X_192_136, X_192_139, X_192_140, r1_63_5, Int.toNat_natCast, s68, wh, fr, pushR_some, pushR_none]
  · have n74 : ¬ a = 74 := fun z => a1 (by unfold scr; omega)
    have n10 : a < 10 ∨ 17 ≤ a := by have : ¬ (10 ≤ a ∧ a < 17) := fun z => a1 (Or.inl z); omega
    by_cases e63 : a = 63
    · subst e63
      funext j
      by_cases ek : j = 12
      · subst ek; rw [put_s, put_s]
      · by_cases ej : j = 11
        · subst ej; rw [put_nk ek, put_s, put_nk ek, put_s]
        · rw [put_nk ek, put_nk ej, put_nk ek, put_nk ej, setR_n n74, fd 63 (by omega) (by omega), put_row (by omega), put_row (by omega)]
    · rw [put_row e63, put_row e63, put_row e63, put_row e63, setR_n n74, ← eD]
      by_cases e0 : a = 0
      · subst e0
        funext j
        by_cases ek : j = 12
        · subst ek; rw [put_s, put_s]
        · by_cases ej : j = 11
          · subst ej; rw [put_nk ek, put_s, put_nk ek, put_s]
          · rw [put_nk ek, put_nk ej, put_nk ek, put_nk ej, FB 0 (by omega)]
      · rw [put_row e0, put_row e0, put_row e0, put_row e0, FB a (by omega)]
  · rw [put_row (by omega), put_row (by omega), setR_s, qF s hs, d64]; exact h0 s hs

theorem Op_mid {x y z : Int} (h_x : -2147483648 ≤ x ∧ x < 2147483648) (h_y : -2147483648 ≤ y ∧ y < 2147483648) (h_z : -2147483648 ≤ z ∧ z < 2147483648) : OpI 68 193 [.inl x, .inl y, .inl z] := by
  intro n h H hn
  have g0 := g1_0
  have g1 := g1_1
  have g3 := g1_3
  have g63 := g1_63
  have g68 := g1_68
  rcases LIV_c H with L | L
  · refine OpI_same (r := -4) (by omega) H (fun Q => ?_) (fun Q => ?_)
    · rw [C_68]
      simp (disch := omega) only [X_68_0, X_68_1, X_68_4, X_68_7_t, X_68_7_f, X_68_7, X_68_10, X_68_12, X_68_13, X_68_14, X_68_17_t, X_68_17_f, X_68_17, X_68_20, X_68_21, X_68_24_t, X_68_24_f, X_68_24, X_68_27, X_68_28, X_68_29, X_68_31, X_68_34_t, X_68_34_f, X_68_34, X_68_37, X_68_38, X_68_39, X_68_40, X_68_41, X_68_44, X_68_45, X_68_46, X_68_47, X_68_48, X_68_49, X_68_52, r1_0_2]
    · rw [C_193]
      simp (disch := omega) only [X_193_0, X_193_1, X_193_4_t, X_193_4_f, X_193_4, X_193_7, X_193_9, X_193_10, X_193_11, X_193_14_t, X_193_14_f, X_193_14, X_193_17, X_193_18, X_193_21_t, X_193_21_f, X_193_21, X_193_24, X_193_25, X_193_26, X_193_27, X_193_30, X_193_33_t, X_193_33_f, X_193_33, X_193_36, X_193_37, X_193_38, X_193_39, X_193_40, X_193_41, X_193_43, X_193_46, X_193_48, X_193_50, X_193_51_t, X_193_51_f, X_193_51, X_193_54, X_193_56, X_193_57, X_193_58, X_193_60, X_193_61, X_193_65, X_193_66, X_193_67, X_193_70, X_193_71, X_193_72, X_193_73_t, X_193_73_f, X_193_73, X_193_76, X_193_77, X_193_78, X_193_80, X_193_81, X_193_84, X_193_86, X_193_88, X_193_90, X_193_91, X_193_94, X_193_95, X_193_98, X_193_99, X_193_100, X_193_101, X_193_103, X_193_106, X_193_109, X_193_110, X_193_112, X_193_113, X_193_116, X_193_117, X_193_118, X_193_121, X_193_124, X_193_125]
  obtain ⟨L1, L2, L3⟩ := L
  by_cases h1 : 0 ≤ x ∧ x < 6
  case neg =>
    refine OpI_same (r := -1) (by omega) H (fun Q => ?_) (fun Q => ?_)
    · rw [C_68]
      simp (disch := omega) only [X_68_0, X_68_1, X_68_4, X_68_7_t, X_68_7_f, X_68_7, X_68_10, X_68_12, X_68_13, X_68_14, X_68_17_t, X_68_17_f, X_68_17, X_68_20, X_68_21, X_68_24_t, X_68_24_f, X_68_24, X_68_27, X_68_28, X_68_29, X_68_31, X_68_34_t, X_68_34_f, X_68_34, X_68_37, X_68_38, X_68_39, X_68_40, X_68_41, X_68_44, X_68_45, X_68_46, X_68_47, X_68_48, X_68_49, X_68_52, r1_0_2, S_isRow_f, pushR_some]
    · rw [C_193]
      simp (disch := omega) only [X_193_0, X_193_1, X_193_4_t, X_193_4_f, X_193_4, X_193_7, X_193_9, X_193_10, X_193_11, X_193_14_t, X_193_14_f, X_193_14, X_193_17, X_193_18, X_193_21_t, X_193_21_f, X_193_21, X_193_24, X_193_25, X_193_26, X_193_27, X_193_30, X_193_33_t, X_193_33_f, X_193_33, X_193_36, X_193_37, X_193_38, X_193_39, X_193_40, X_193_41, X_193_43, X_193_46, X_193_48, X_193_50, X_193_51_t, X_193_51_f, X_193_51, X_193_54, X_193_56, X_193_57, X_193_58, X_193_60, X_193_61, X_193_65, X_193_66, X_193_67, X_193_70, X_193_71, X_193_72, X_193_73_t, X_193_73_f, X_193_73, X_193_76, X_193_77, X_193_78, X_193_80, X_193_81, X_193_84, X_193_86, X_193_88, X_193_90, X_193_91, X_193_94, X_193_95, X_193_98, X_193_99, X_193_100, X_193_101, X_193_103, X_193_106, X_193_109, X_193_110, X_193_112, X_193_113, X_193_116, X_193_117, X_193_118, X_193_121, X_193_124, X_193_125, S3_isRow_f, pushR_some]
  by_cases hy : 0 ≤ y ∧ y < 14
  case neg =>
    refine OpI_same (r := -1) (by omega) H (fun Q => ?_) (fun Q => ?_)
    · rw [C_68]
      simp (disch := omega) only [X_68_0, X_68_1, X_68_4, X_68_7_t, X_68_7_f, X_68_7, X_68_10, X_68_12, X_68_13, X_68_14, X_68_17_t, X_68_17_f, X_68_17, X_68_20, X_68_21, X_68_24_t, X_68_24_f, X_68_24, X_68_27, X_68_28, X_68_29, X_68_31, X_68_34_t, X_68_34_f, X_68_34, X_68_37, X_68_38, X_68_39, X_68_40, X_68_41, X_68_44, X_68_45, X_68_46, X_68_47, X_68_48, X_68_49, X_68_52, r1_0_2, S_isRow_t, S_isCell_f, pushR_some]
    · rw [C_193]
      simp (disch := omega) only [X_193_0, X_193_1, X_193_4_t, X_193_4_f, X_193_4, X_193_7, X_193_9, X_193_10, X_193_11, X_193_14_t, X_193_14_f, X_193_14, X_193_17, X_193_18, X_193_21_t, X_193_21_f, X_193_21, X_193_24, X_193_25, X_193_26, X_193_27, X_193_30, X_193_33_t, X_193_33_f, X_193_33, X_193_36, X_193_37, X_193_38, X_193_39, X_193_40, X_193_41, X_193_43, X_193_46, X_193_48, X_193_50, X_193_51_t, X_193_51_f, X_193_51, X_193_54, X_193_56, X_193_57, X_193_58, X_193_60, X_193_61, X_193_65, X_193_66, X_193_67, X_193_70, X_193_71, X_193_72, X_193_73_t, X_193_73_f, X_193_73, X_193_76, X_193_77, X_193_78, X_193_80, X_193_81, X_193_84, X_193_86, X_193_88, X_193_90, X_193_91, X_193_94, X_193_95, X_193_98, X_193_99, X_193_100, X_193_101, X_193_103, X_193_106, X_193_109, X_193_110, X_193_112, X_193_113, X_193_116, X_193_117, X_193_118, X_193_121, X_193_124, X_193_125, S3_isRow_t, S3_isCell_f, pushR_some]
  by_cases hz : 0 ≤ z ∧ z ≤ 12
  case neg =>
    refine OpI_same (r := -1) (by omega) H (fun Q => ?_) (fun Q => ?_)
    · rw [C_68]
      simp (disch := omega) only [X_68_0, X_68_1, X_68_4, X_68_7_t, X_68_7_f, X_68_7, X_68_10, X_68_12, X_68_13, X_68_14, X_68_17_t, X_68_17_f, X_68_17, X_68_20, X_68_21, X_68_24_t, X_68_24_f, X_68_24, X_68_27, X_68_28, X_68_29, X_68_31, X_68_34_t, X_68_34_f, X_68_34, X_68_37, X_68_38, X_68_39, X_68_40, X_68_41, X_68_44, X_68_45, X_68_46, X_68_47, X_68_48, X_68_49, X_68_52, r1_0_2, S_isRow_t, S_isCell_t, S_isWithin_f, pushR_some]
    · rw [C_193]
      simp (disch := omega) only [X_193_0, X_193_1, X_193_4_t, X_193_4_f, X_193_4, X_193_7, X_193_9, X_193_10, X_193_11, X_193_14_t, X_193_14_f, X_193_14, X_193_17, X_193_18, X_193_21_t, X_193_21_f, X_193_21, X_193_24, X_193_25, X_193_26, X_193_27, X_193_30, X_193_33_t, X_193_33_f, X_193_33, X_193_36, X_193_37, X_193_38, X_193_39, X_193_40, X_193_41, X_193_43, X_193_46, X_193_48, X_193_50, X_193_51_t, X_193_51_f, X_193_51, X_193_54, X_193_56, X_193_57, X_193_58, X_193_60, X_193_61, X_193_65, X_193_66, X_193_67, X_193_70, X_193_71, X_193_72, X_193_73_t, X_193_73_f, X_193_73, X_193_76, X_193_77, X_193_78, X_193_80, X_193_81, X_193_84, X_193_86, X_193_88, X_193_90, X_193_91, X_193_94, X_193_95, X_193_98, X_193_99, X_193_100, X_193_101, X_193_103, X_193_106, X_193_109, X_193_110, X_193_112, X_193_113, X_193_116, X_193_117, X_193_118, X_193_121, X_193_124, X_193_125, S3_isRow_t, S3_isCell_t, S3_in_f, pushR_some]
  obtain ⟨r, rfl⟩ := nat_of h1.1
  obtain ⟨c, rfl⟩ := nat_of hy.1
  have hr : r < 6 := by omega
  have hc : c < 14 := by omega
  have hR := rows_r hr
  have sR := rw_s hR.2
  have R := H.2.2.1 r hr
  have R' := R
  obtain ⟨R1, R2, R3, R4, R5⟩ := R'
  by_cases h2 : h 68 r < 0
  case pos =>
    have cF : ∀ Q, call 29 115 [.inr (.inr (some 0)), .inr (.inr (some (22 + 2 * r))), .inl (c : Int), .inl (-1), .inl z] G1 h Q = Q (some (.inl (-3))) G1 (fnd h 1) := fun Q => S_tell_m (by omega) hr R h2
    have w68 : fnd h 1 68 r = h 68 r := by rw [fnd_o (by omega) (by omega)]
    have w63 : fnd h 1 63 1 = 1 := by rw [fnd_o (by omega) (by omega)]; exact L1
    refine OpI_find (w := 1) (by omega) H (fun Q => ?_) (fun Q => ?_)
    · rw [C_68]
      simp (disch := omega) only [X_68_0, X_68_1, X_68_4, X_68_7_t, X_68_7_f, X_68_7, X_68_10, X_68_12, X_68_13, X_68_14, X_68_17_t, X_68_17_f, X_68_17, X_68_20, X_68_21, X_68_24_t, X_68_24_f, X_68_24, X_68_27, X_68_28, X_68_29, X_68_31, X_68_34_t, X_68_34_f, X_68_34, X_68_37, X_68_38, X_68_39, X_68_40, X_68_41, X_68_44, X_68_45, X_68_46, X_68_47, X_68_48, X_68_49, X_68_52, r1_0_2, r1_0_0, S_isRow_t, S_isCell_t, S_isWithin_t, Int.toNat_natCast, hR.1, cF, pushR_some, fixp_i]
    · rw [C_193]
      simp (disch := omega) only [X_193_0, X_193_1, X_193_4_t, X_193_4_f, X_193_4, X_193_7, X_193_9, X_193_10, X_193_11, X_193_14_t, X_193_14_f, X_193_14, X_193_17, X_193_18, X_193_21_t, X_193_21_f, X_193_21, X_193_24, X_193_25, X_193_26, X_193_27, X_193_30, X_193_33_t, X_193_33_f, X_193_33, X_193_36, X_193_37, X_193_38, X_193_39, X_193_40, X_193_41, X_193_43, X_193_46, X_193_48, X_193_50, X_193_51_t, X_193_51_f, X_193_51, X_193_54, X_193_56, X_193_57, X_193_58, X_193_60, X_193_61, X_193_65, X_193_66, X_193_67, X_193_70, X_193_71, X_193_72, X_193_73_t, X_193_73_f, X_193_73, X_193_76, X_193_77, X_193_78, X_193_80, X_193_81, X_193_84, X_193_86, X_193_88, X_193_90, X_193_91, X_193_94, X_193_95, X_193_98, X_193_99, X_193_100, X_193_101, X_193_103, X_193_106, X_193_109, X_193_110, X_193_112, X_193_113, X_193_116, X_193_117, X_193_118, X_193_121, X_193_124, X_193_125, S3_isRow_t, S3_isCell_t, S3_in_t, S3_la_m, pushR_some, fixp_i]
  by_cases h3 : 1 ≤ h 68 r ∧ h 68 r ≤ 8
  case neg =>
    have cF : ∀ Q, call 29 115 [.inr (.inr (some 0)), .inr (.inr (some (22 + 2 * r))), .inl (c : Int), .inl (-1), .inl z] G1 h Q = Q (some (.inl (-3))) G1 (fnd h 5) := fun Q => S_tell_s (by omega) hr R (by omega) h3
    have w68 : fnd h 5 68 r = h 68 r := by rw [fnd_o (by omega) (by omega)]
    have w63 : fnd h 5 63 1 = 1 := by rw [fnd_o (by omega) (by omega)]; exact L1
    refine OpI_find (w := 5) (by omega) H (fun Q => ?_) (fun Q => ?_)
    · rw [C_68]
      simp (disch := omega) only [X_68_0, X_68_1, X_68_4, X_68_7_t, X_68_7_f, X_68_7, X_68_10, X_68_12, X_68_13, X_68_14, X_68_17_t, X_68_17_f, X_68_17, X_68_20, X_68_21, X_68_24_t, X_68_24_f, X_68_24, X_68_27, X_68_28, X_68_29, X_68_31, X_68_34_t, X_68_34_f, X_68_34, X_68_37, X_68_38, X_68_39, X_68_40, X_68_41, X_68_44, X_68_45, X_68_46, X_68_47, X_68_48, X_68_49, X_68_52, r1_0_2, r1_0_0, S_isRow_t, S_isCell_t, S_isWithin_t, Int.toNat_natCast, hR.1, cF, pushR_some, fixp_i]
    · rw [C_193]
      simp (disch := omega) only [X_193_0, X_193_1, X_193_4_t, X_193_4_f, X_193_4, X_193_7, X_193_9, X_193_10, X_193_11, X_193_14_t, X_193_14_f, X_193_14, X_193_17, X_193_18, X_193_21_t, X_193_21_f, X_193_21, X_193_24, X_193_25, X_193_26, X_193_27, X_193_30, X_193_33_t, X_193_33_f, X_193_33, X_193_36, X_193_37, X_193_38, X_193_39, X_193_40, X_193_41, X_193_43, X_193_46, X_193_48, X_193_50, X_193_51_t, X_193_51_f, X_193_51, X_193_54, X_193_56, X_193_57, X_193_58, X_193_60, X_193_61, X_193_65, X_193_66, X_193_67, X_193_70, X_193_71, X_193_72, X_193_73_t, X_193_73_f, X_193_73, X_193_76, X_193_77, X_193_78, X_193_80, X_193_81, X_193_84, X_193_86, X_193_88, X_193_90, X_193_91, X_193_94, X_193_95, X_193_98, X_193_99, X_193_100, X_193_101, X_193_103, X_193_106, X_193_109, X_193_110, X_193_112, X_193_113, X_193_116, X_193_117, X_193_118, X_193_121, X_193_124, X_193_125, S3_isRow_t, S3_isCell_t, S3_in_t, S3_la_s, pushR_some, fixp_i]
  have cL : ∀ (h' : AH) Q, h' 67 = h 67 → h' 68 = h 68 → call 29 166 [.inr (.inr (some 63)), .inl (r : Int), .inl 1, .inl 8] G1 h' Q = if mvOk h r = true then Q (some (.inl 1)) G1 h' else Q (some (.inl (-3))) G1 (fn3 h' 3) := fun h' Q e1 e2 => by
    have e3 : mvOk h' r = mvOk h r := by unfold mvOk; rw [e1, e2]
    rw [S3_la_a (by omega) hr (by rw [e2]; omega) (by rw [e2]; omega) (by omega) (by rw [e2]; omega) (fun k hk => by rw [e1]; rw [e2] at hk; exact (R5 k hk).2), e3]
  by_cases hm : mvOk h r = true
  case neg =>
    have cF : ∀ Q, call 29 115 [.inr (.inr (some 0)), .inr (.inr (some (22 + 2 * r))), .inl (c : Int), .inl (-1), .inl z] G1 h Q = Q (some (.inl (-3))) G1 (fnd h 3) := fun Q => S_tell_n (by omega) hr R h3 hm
    have cL2 := fun Q => cL (fnd h 3) Q (fnd_o (by omega) (by omega)) (fnd_o (by omega) (by omega))
    have w63 : fnd h 3 63 1 = 1 := by rw [fnd_o (by omega) (by omega)]; exact L1
    refine OpI_find (w := 3) (by omega) H (fun Q => ?_) (fun Q => ?_)
    · rw [C_68]
      simp (disch := omega) only [X_68_0, X_68_1, X_68_4, X_68_7_t, X_68_7_f, X_68_7, X_68_10, X_68_12, X_68_13, X_68_14, X_68_17_t, X_68_17_f, X_68_17, X_68_20, X_68_21, X_68_24_t, X_68_24_f, X_68_24, X_68_27, X_68_28, X_68_29, X_68_31, X_68_34_t, X_68_34_f, X_68_34, X_68_37, X_68_38, X_68_39, X_68_40, X_68_41, X_68_44, X_68_45, X_68_46, X_68_47, X_68_48, X_68_49, X_68_52, r1_0_2, r1_0_0, S_isRow_t, S_isCell_t, S_isWithin_t, Int.toNat_natCast, hR.1, cF, pushR_some, fixp_i]
    · rw [C_193]
      simp (disch := omega) only [X_193_0, X_193_1, X_193_4_t, X_193_4_f, X_193_4, X_193_7, X_193_9, X_193_10, X_193_11, X_193_14_t, X_193_14_f, X_193_14, X_193_17, X_193_18, X_193_21_t, X_193_21_f, X_193_21, X_193_24, X_193_25, X_193_26, X_193_27, X_193_30, X_193_33_t, X_193_33_f, X_193_33, X_193_36, X_193_37, X_193_38, X_193_39, X_193_40, X_193_41, X_193_43, X_193_46, X_193_48, X_193_50, X_193_51_t, X_193_51_f, X_193_51, X_193_54, X_193_56, X_193_57, X_193_58, X_193_60, X_193_61, X_193_65, X_193_66, X_193_67, X_193_70, X_193_71, X_193_72, X_193_73_t, X_193_73_f, X_193_73, X_193_76, X_193_77, X_193_78, X_193_80, X_193_81, X_193_84, X_193_86, X_193_88, X_193_90, X_193_91, X_193_94, X_193_95, X_193_98, X_193_99, X_193_100, X_193_101, X_193_103, X_193_106, X_193_109, X_193_110, X_193_112, X_193_113, X_193_116, X_193_117, X_193_118, X_193_121, X_193_124, X_193_125, S3_isRow_t, S3_isCell_t, S3_in_t, cL2, if_neg hm, pushR_some, fixp_i]
  obtain ⟨LL, hLL⟩ := nat_of (x := h 68 r) (by omega)
  have mk := mvOk_iff hLL hm
  have hf := FUL_ty L3
  have h0 := H.2.2.2.2.1.2.2.2
  obtain ⟨hb, cT, FB⟩ := S_tell (d := 29) (r := r) (L := LL) (c := c) (p := z) (col := -1) (N := 40) (h := h) (by omega) hr R hLL (by omega) hm hc hz (by omega) (by omega) hf H.1 L3.1 L2
  have sb := sw_b (c := c) (col := -1) (p := z) (g := fun k => h 67 (40 * r + k)) hc hz (m := LL) (i := 0) (f := h 64) (N := 40) (fun k k1 k2 => mk k (by omega)) hf (by omega)
  have pb := pw_b LL (by omega)
  have es := sum_sw (val := vlC c (-1)) (g := fun k => h 67 (40 * r + k)) (p := z) (L := LL) (f := h 64) (by omega)
  generalize eA : sw (vlC c (-1)) (fun k => h 67 (40 * r + k)) z LL 0 (h 64) = A at *
  have fr := fun (h' : AH) (Q : Option AV → AG → AH → Prop) => S3_frac (d := 29) (A := A) (B := 12 ^ LL) (h := h') (Q := Q) (by omega) (by omega) (by omega)
  have wh := fun (h' : AH) (Q : Option AV → AG → AH → Prop) => S3_whole (d := 29) (L := LL) (h := h') (Q := Q) (by omega) (by omega)
  have h100 : (9000000001 : Int) ≤ 2 ^ 100 := by decide
  generalize (12 : Int) ^ LL = B at *
  have e0 := eu_pos (n := 200) (a := A) (b := B) sb.1 (by omega) (Or.inr (by omega)) (tm_ok 100 A B sb.1 (by omega) (by omega))
  have e1 := eu_le (M := 9000000000) (n := 200) (a := A) (b := B) (by omega) (by omega)
  have u1 := Int.ediv_nonneg (a := A) (b := euF 200 A B) sb.1 (by omega)
  have u2 := Int.ediv_le_self (a := A) (b := euF 200 A B) sb.1
  have v1 := Int.ediv_nonneg (a := B) (b := euF 200 A B) (by omega) (by omega)
  have v2 := Int.ediv_le_self (a := B) (b := euF 200 A B) (by omega)
  generalize A / euF 200 A B = u at *
  generalize B / euF 200 A B = l at *
  generalize eD : put (put hb 0 11 u) 0 12 l = hd at cT
  have fd : ∀ a, ¬ a = 0 → (a < 10 ∨ 16 ≤ a) → hd a = h a := fun a a0 a1 => by rw [← eD, put_row a0, put_row a0, FB a a1]
  have d67 : hd 67 = h 67 := fd 67 (by omega) (by omega)
  have d68 : hd 68 = h 68 := fd 68 (by omega) (by omega)
  have d64 : hd 64 = h 64 := fd 64 (by omega) (by omega)
  have d63 : hd 63 1 = 1 := by rw [fd 63 (by omega) (by omega), L1]
  have d74 : ∀ s, 98 ≤ s → hd 74 s = 0 := fun s hs => by rw [fd 74 (by omega) (by omega)]; exact H.2.1 s hs
  have cL2 := fun Q => cL hd Q d67 d68
  obtain ⟨F, qF, l9, q1⟩ := M_mid (d := 29) (r := r) (L := LL) (c := c) (p := z) (is := 1) (N := 40) (h := hd) (by omega) hr (by omega) hc hz (by rw [d68]; exact hLL) (by rw [d67]; exact mk) (by omega) (by rw [d64]; exact hf) (2 ^ LL) 0 (hd 74) none (by omega) (fun s hs => by rw [d74 s hs, d64, h0 s hs])
  rw [d67, d64, setR_e, es] at q1
  have s68 : setR hd 74 F 68 r = (LL : Int) := by rw [setR_n (by omega), d68]; exact hLL
  refine ⟨1, hd, put (put (setR hd 74 F) 63 11 u) 63 12 l, by omega, fun Q => ?_, fun Q => ?_, INV_scr (INV_frac (u := u) (l := l) (by omega) (by omega) H) (fun a a1 => ?_) (fun s hs => ?_)⟩
  · rw [C_68]
    simp (disch := omega) only [X_68_0, X_68_1, X_68_4, X_68_7_t, X_68_7_f, X_68_7, X_68_10, X_68_12, X_68_13, X_68_14, X_68_17_t, X_68_17_f, X_68_17, X_68_20, X_68_21, X_68_24_t, X_68_24_f, X_68_24, X_68_27, X_68_28, X_68_29, X_68_31, X_68_34_t, X_68_34_f, X_68_34, X_68_37, X_68_38, X_68_39, X_68_40, X_68_41, X_68_44, X_68_45, X_68_46, X_68_47, X_68_48, X_68_49, X_68_52, r1_0_2, r1_0_0, S_isRow_t, S_isCell_t, S_isWithin_t, Int.toNat_natCast, hR.1, cT, pushR_some, pushR_none, fixp_i]
  · rw [C_193]
    simp (disch := omega) only [X_193_0, X_193_1, X_193_4_t, X_193_4_f, X_193_4, X_193_7, X_193_9, X_193_10, X_193_11, X_193_14_t, X_193_14_f, X_193_14, X_193_17, X_193_18, X_193_21_t, X_193_21_f, X_193_21, X_193_24, X_193_25, X_193_26, X_193_27, X_193_30, X_193_33_t, X_193_33_f, X_193_33, X_193_36, X_193_37, X_193_38, X_193_39, X_193_40, X_193_41, X_193_43, X_193_46, X_193_48, X_193_50, X_193_51_t, X_193_51_f, X_193_51, X_193_54, X_193_56, X_193_57, X_193_58, X_193_60, X_193_61, X_193_65, X_193_66, X_193_67, X_193_70, X_193_71, X_193_72, X_193_73_t, X_193_73_f, X_193_73, X_193_76, X_193_77, X_193_78, X_193_80, X_193_81, X_193_84, X_193_86, X_193_88, X_193_90, X_193_91, X_193_94, X_193_95, X_193_98, X_193_99, X_193_100, X_193_101, X_193_103, X_193_106, X_193_109, X_193_110, X_193_112, X_193_113, X_193_116, X_193_117, X_193_118, X_193_121, X_193_124, X_193_125, S3_isRow_t, S3_isCell_t, S3_in_t, cL2, if_pos hm, pushR_some, pushR_none, fixp_i, fixp_n, fixp_l]
    refine (q1 Q).trans ?_
    simp (disch := omega) only [X_193_0, X_193_1, X_193_4_t, X_193_4_f, X_193_4, X_193_7, X_193_9, X_193_10, X_193_11, X_193_14_t, X_193_14_f, X_193_14, X_193_17, X_193_18, X_193_21_t, X_193_21_f, X_193_21, X_193_24, X_193_25, X_193_26, X_193_27, X_193_30, X_193_33_t, X_193_33_f, X_193_33, X_193_36, X_193_37, X_193_38, X_193_39, X_193_40, X_193_41, X_193_43, X_193_46, X_193_48, X_193_50, X_193_51_t, X_193_51_f, X_193_51, X_193_54, X_193_56, X_193_57, X_193_58, X_193_60, X_193_61, X_193_65, X_193_66, X_193_67, X_193_70, X_193_71, X_193_72, X_193_73_t, X_193_73_f, X_193_73, X_193_76, X_193_77, X_193_78, X_193_80, X_193_81, X_193_84, X_193_86, X_193_88, X_193_90, X_193_91, X_193_94, X_193_95, X_193_98, X_193_99, X_193_100, X_193_101, X_193_103, X_193_106, X_193_109, X_193_110, X_193_112, X_193_113, X_193_116, X_193_117, X_193_118, X_193_121, X_193_124, X_193_125, r1_63_5, Int.toNat_natCast, s68, wh, fr, pushR_some, pushR_none]
  · have n74 : ¬ a = 74 := fun z => a1 (by unfold scr; omega)
    have n10 : a < 10 ∨ 17 ≤ a := by have : ¬ (10 ≤ a ∧ a < 17) := fun z => a1 (Or.inl z); omega
    by_cases e63 : a = 63
    · subst e63
      funext j
      by_cases ek : j = 12
      · subst ek; rw [put_s, put_s]
      · by_cases ej : j = 11
        · subst ej; rw [put_nk ek, put_s, put_nk ek, put_s]
        · rw [put_nk ek, put_nk ej, put_nk ek, put_nk ej, setR_n n74, fd 63 (by omega) (by omega), put_row (by omega), put_row (by omega)]
    · rw [put_row e63, put_row e63, put_row e63, put_row e63, setR_n n74, ← eD]
      by_cases e0 : a = 0
      · subst e0
        funext j
        by_cases ek : j = 12
        · subst ek; rw [put_s, put_s]
        · by_cases ej : j = 11
          · subst ej; rw [put_nk ek, put_s, put_nk ek, put_s]
          · rw [put_nk ek, put_nk ej, put_nk ek, put_nk ej, FB 0 (by omega)]
      · rw [put_row e0, put_row e0, put_row e0, put_row e0, FB a (by omega)]
  · rw [put_row (by omega), put_row (by omega), setR_s, qF s hs, d64]; exact h0 s hs
