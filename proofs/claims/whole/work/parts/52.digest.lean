/-! 52: digest -/
def foldN (s : Int → Nat → Int) : Nat → Nat → Int → Int
  | 0, _, a => a
  | n + 1, i, a => foldN s n (i + 1) (s a i)
theorem fixp_l2 {x : Int} : fixp (some (.inr (.inl x))) = none := rfl
/-- one count, one bead, one kept toy, one row, one text told on -/
def d1 (h : AH) (a : Int) (i : Nat) : Int := 31 * a + cnF h (i : Int)
def d2 (h : AH) (a : Int) (i : Nat) : Int := 31 * (31 * (31 * (31 * (31 * a + h 64 i) + h 64 (14 + i)) + h 6 i) + h 64 (83 + i)) + shF (h 64) (h 6 i).toNat
def d3 (h : AH) (a : Int) (i : Nat) : Int := 31 * a + if h 66 i = 0 then -1 else h 65 (98 * i + 28)
def d4 (h : AH) (a : Int) (i : Nat) : Int := dgF (fun k => h 67 (40 * i + k)) (h 68 i).toNat 0 (31 * a + h 68 i)
def d5 (h : AH) (a : Int) (i : Nat) : Int := dgF (fun k => h 69 (60 * i + k)) (h 70 i).toNat 0 (31 * a + h 70 i)
theorem d2_p {n : Nat} {h : AH} {i : Nat} (L3 : FUL h 3 (h 64)) (hi : i < 14) : ∃ c0, c0 < 14 ∧ h 64 (69 + c0) = (i : Int) ∧ h 6 i = (c0 : Int) := by
  obtain ⟨c0, hc, hci⟩ := (FUL_ty L3).2.1 i hi
  have k4 := L3.1.2.2.2.2.2 c0 hc
  rw [hci, Int.toNat_natCast] at k4
  exact ⟨c0, hc, hci, k4⟩
theorem C_dig1 {n d : Nat} {h : AH} {Q : Option AV → AG → AH → Prop} (hd : 6 ≤ d) (H : INV n h)  : ∀ (m i : Nat) (a : Int), i + m = 12 → wp d 76 6 [some (.inr (.inr (some 0))), some (.inr (.inl a)), none, some (.inl (i : Int))] [] G1 h Q = wp d 76 6 [some (.inr (.inr (some 0))), some (.inr (.inl (foldN (d1 h) m i a))), none, some (.inl ((12 : Nat) : Int))] [] G1 h Q := by
  have g0 := g1_0
  intro m
  induction m with
  | zero =>
    intro i a hi
    obtain rfl : i = 12 := by omega
    rfl
  | succ m ih =>
    intro i a hi
    have b := cnF_bd (w := (i : Int)) H
    have c : ∀ Q, call d 99 [.inr (.inr (some 0)), .inl (i : Int)] G1 h Q = Q (some (.inl (cnF h (i : Int)))) G1 h := fun Q => S_counted hd H (by omega)
    refine Eq.trans ?_ (ih (i + 1) (d1 h a i) (by omega))
    conv => lhs; rw [X_76_6]
    conv => lhs; simp (disch := omega) only [X_76_0, X_76_3, X_76_4, X_76_5, X_76_7, X_76_9_t, X_76_9_f, X_76_9, X_76_12, X_76_15, X_76_16, X_76_17, X_76_18, X_76_19, X_76_22, X_76_23, X_76_24, X_76_25, X_76_28, X_76_31, X_76_32, X_76_33, X_76_36, X_76_37, X_76_38, X_76_40, X_76_41_t, X_76_41_f, X_76_41, X_76_44, X_76_47, X_76_48, X_76_49, X_76_50, X_76_53, X_76_54, X_76_55, X_76_58_t, X_76_58_f, X_76_58, X_76_61, X_76_62, X_76_65, X_76_66, X_76_67, X_76_70, X_76_73, X_76_74, X_76_75, X_76_76, X_76_77, X_76_80, X_76_83, X_76_84, X_76_86, X_76_88_t, X_76_88_f, X_76_88, X_76_91, X_76_92, X_76_95, X_76_96, X_76_97, X_76_98, X_76_101, X_76_102, X_76_105, X_76_108, X_76_109, X_76_111, X_76_112_t, X_76_112_f, X_76_112, X_76_115, X_76_116, X_76_119, X_76_120, X_76_121, X_76_122, X_76_125, X_76_126, X_76_129, X_76_132, X_76_133, c, pushR_some, Int.toNat_natCast, fixp_i, fixp_r, fixp_n, fixp_l2, natS]
    rfl
theorem C_dig3 {n d : Nat} {h : AH} {Q : Option AV → AG → AH → Prop} (hd : 6 ≤ d) (H : INV n h)  : ∀ (m i : Nat) (a : Int), i + m = 3 → wp d 76 39 [some (.inr (.inr (some 0))), some (.inr (.inl a)), none, some (.inl (i : Int))] [] G1 h Q = wp d 76 39 [some (.inr (.inr (some 0))), some (.inr (.inl (foldN (d3 h) m i a))), none, some (.inl ((3 : Nat) : Int))] [] G1 h Q := by
  have g0 := g1_0
  have g1 := g1_17
  intro m
  induction m with
  | zero =>
    intro i a hi
    obtain rfl : i = 3 := by omega
    rfl
  | succ m ih =>
    intro i a hi
    have hR := kept_r (r := i) (by omega)
    have hs := toy_s hR.2
    obtain ⟨K1, K2⟩ := H.2.2.2.2.2.1 i (by omega)
    refine Eq.trans ?_ (ih (i + 1) (d3 h a i) (by omega))
    rcases K2 with K2 | ⟨K2, K3, K4⟩
    · have e : d3 h a i = 31 * a + -1 := by unfold d3; rw [if_pos K2]
      rw [e]
      conv => lhs; rw [X_76_39]
      conv => lhs; simp (disch := omega) only [X_76_0, X_76_3, X_76_4, X_76_5, X_76_7, X_76_9_t, X_76_9_f, X_76_9, X_76_12, X_76_15, X_76_16, X_76_17, X_76_18, X_76_19, X_76_22, X_76_23, X_76_24, X_76_25, X_76_28, X_76_31, X_76_32, X_76_33, X_76_36, X_76_37, X_76_38, X_76_40, X_76_41_t, X_76_41_f, X_76_41, X_76_44, X_76_47, X_76_48, X_76_49, X_76_50, X_76_53, X_76_54, X_76_55, X_76_58_t, X_76_58_f, X_76_58, X_76_61, X_76_62, X_76_65, X_76_66, X_76_67, X_76_70, X_76_73, X_76_74, X_76_75, X_76_76, X_76_77, X_76_80, X_76_83, X_76_84, X_76_86, X_76_88_t, X_76_88_f, X_76_88, X_76_91, X_76_92, X_76_95, X_76_96, X_76_97, X_76_98, X_76_101, X_76_102, X_76_105, X_76_108, X_76_109, X_76_111, X_76_112_t, X_76_112_f, X_76_112, X_76_115, X_76_116, X_76_119, X_76_120, X_76_121, X_76_122, X_76_125, X_76_126, X_76_129, X_76_132, X_76_133, r1_0_4, hR.1, K1, K2, pushR_some, Int.toNat_natCast, fixp_i, fixp_r, fixp_n, fixp_l2, natS]
    · have b1 := K4.2.2.1.1
      have b2 := K4.2.2.1.2.1
      have b3 := K4.2.2.1.2.2.1
      have e28 : kpt h i 28 = h 65 (98 * i + 28) := by unfold kpt; rw [if_pos (by omega)]
      have e : d3 h a i = 31 * a + kpt h i 28 := by unfold d3; rw [if_neg (by omega), e28]
      rw [e]
      conv => lhs; rw [X_76_39]
      conv => lhs; simp (disch := omega) only [X_76_0, X_76_3, X_76_4, X_76_5, X_76_7, X_76_9_t, X_76_9_f, X_76_9, X_76_12, X_76_15, X_76_16, X_76_17, X_76_18, X_76_19, X_76_22, X_76_23, X_76_24, X_76_25, X_76_28, X_76_31, X_76_32, X_76_33, X_76_36, X_76_37, X_76_38, X_76_40, X_76_41_t, X_76_41_f, X_76_41, X_76_44, X_76_47, X_76_48, X_76_49, X_76_50, X_76_53, X_76_54, X_76_55, X_76_58_t, X_76_58_f, X_76_58, X_76_61, X_76_62, X_76_65, X_76_66, X_76_67, X_76_70, X_76_73, X_76_74, X_76_75, X_76_76, X_76_77, X_76_80, X_76_83, X_76_84, X_76_86, X_76_88_t, X_76_88_f, X_76_88, X_76_91, X_76_92, X_76_95, X_76_96, X_76_97, X_76_98, X_76_101, X_76_102, X_76_105, X_76_108, X_76_109, X_76_111, X_76_112_t, X_76_112_f, X_76_112, X_76_115, X_76_116, X_76_119, X_76_120, X_76_121, X_76_122, X_76_125, X_76_126, X_76_129, X_76_132, X_76_133, r1_0_4, hR.1, b1, pushR_some, Int.toNat_natCast, fixp_i, fixp_r, fixp_n, fixp_l2, natS]
theorem C_dig4 {n d : Nat} {h : AH} {Q : Option AV → AG → AH → Prop} (hd : 6 ≤ d) (H : INV n h)  : ∀ (m i : Nat) (a : Int), i + m = 6 → wp d 76 85 [some (.inr (.inr (some 0))), some (.inr (.inl a)), none, some (.inl (i : Int))] [] G1 h Q = wp d 76 85 [some (.inr (.inr (some 0))), some (.inr (.inl (foldN (d4 h) m i a))), none, some (.inl ((6 : Nat) : Int))] [] G1 h Q := by
  have g0 := g1_0
  have g1 := g1_1
  intro m
  induction m with
  | zero =>
    intro i a hi
    obtain rfl : i = 6 := by omega
    rfl
  | succ m ih =>
    intro i a hi
    obtain ⟨R1, R2, R3, R4, R5⟩ := H.2.2.1 i (by omega)
    have hR := rows_r (r := i) (by omega)
    have hs := rw_s hR.2
    have hL := rwL_r (r := i) (by omega)
    have c : ∀ Q, call d 9 [.inr (.inr (some (22 + 2 * i))), .inr (.inl a)] G1 h Q = Q (some (.inr (.inl (d4 h a i)))) G1 h := fun Q => by
      rw [S_digestOn (by omega) hR.2 (by omega) (fun k hk => by rw [q23, (R5 k (by omega)).1]; exact (R5 k (by omega)).2), R1]
      unfold d4
      rw [dgF_congr (k := fun k => h 67 (40 * i + k)) (fun c c1 c2 => by rw [q23]; exact (R5 c (by omega)).1)]
    refine Eq.trans ?_ (ih (i + 1) (d4 h a i) (by omega))
    conv => lhs; rw [X_76_85]
    conv => lhs; simp (disch := omega) only [X_76_0, X_76_3, X_76_4, X_76_5, X_76_7, X_76_9_t, X_76_9_f, X_76_9, X_76_12, X_76_15, X_76_16, X_76_17, X_76_18, X_76_19, X_76_22, X_76_23, X_76_24, X_76_25, X_76_28, X_76_31, X_76_32, X_76_33, X_76_36, X_76_37, X_76_38, X_76_40, X_76_41_t, X_76_41_f, X_76_41, X_76_44, X_76_47, X_76_48, X_76_49, X_76_50, X_76_53, X_76_54, X_76_55, X_76_58_t, X_76_58_f, X_76_58, X_76_61, X_76_62, X_76_65, X_76_66, X_76_67, X_76_70, X_76_73, X_76_74, X_76_75, X_76_76, X_76_77, X_76_80, X_76_83, X_76_84, X_76_86, X_76_88_t, X_76_88_f, X_76_88, X_76_91, X_76_92, X_76_95, X_76_96, X_76_97, X_76_98, X_76_101, X_76_102, X_76_105, X_76_108, X_76_109, X_76_111, X_76_112_t, X_76_112_f, X_76_112, X_76_115, X_76_116, X_76_119, X_76_120, X_76_121, X_76_122, X_76_125, X_76_126, X_76_129, X_76_132, X_76_133, r1_0_0, hR.1, c, pushR_some, Int.toNat_natCast, fixp_i, fixp_r, fixp_n, fixp_l2, natS]
theorem C_dig5 {n d : Nat} {h : AH} {Q : Option AV → AG → AH → Prop} (hd : 6 ≤ d) (H : INV n h)  : ∀ (m i : Nat) (a : Int), i + m = 4 → wp d 76 110 [some (.inr (.inr (some 0))), some (.inr (.inl a)), none, some (.inl (i : Int))] [] G1 h Q = wp d 76 110 [some (.inr (.inr (some 0))), some (.inr (.inl (foldN (d5 h) m i a))), none, some (.inl ((4 : Nat) : Int))] [] G1 h Q := by
  have g0 := g1_0
  have g1 := g1_2
  intro m
  induction m with
  | zero =>
    intro i a hi
    obtain rfl : i = 4 := by omega
    rfl
  | succ m ih =>
    intro i a hi
    obtain ⟨R1, R2, R3, R4, R5⟩ := H.2.2.2.1 i (by omega)
    have hR := texts_r (r := i) (by omega)
    have hs := rw_s hR.2
    have hL := rwL_t (r := i) (by omega)
    have c : ∀ Q, call d 9 [.inr (.inr (some (34 + 2 * i))), .inr (.inl a)] G1 h Q = Q (some (.inr (.inl (d5 h a i)))) G1 h := fun Q => by
      rw [S_digestOn (by omega) hR.2 (by omega) (fun k hk => by rw [q35, (R5 k (by omega)).1]; have := (R5 k (by omega)).2; omega), R1]
      unfold d5
      rw [dgF_congr (k := fun k => h 69 (60 * i + k)) (fun c c1 c2 => by rw [q35]; exact (R5 c (by omega)).1)]
    refine Eq.trans ?_ (ih (i + 1) (d5 h a i) (by omega))
    conv => lhs; rw [X_76_110]
    conv => lhs; simp (disch := omega) only [X_76_0, X_76_3, X_76_4, X_76_5, X_76_7, X_76_9_t, X_76_9_f, X_76_9, X_76_12, X_76_15, X_76_16, X_76_17, X_76_18, X_76_19, X_76_22, X_76_23, X_76_24, X_76_25, X_76_28, X_76_31, X_76_32, X_76_33, X_76_36, X_76_37, X_76_38, X_76_40, X_76_41_t, X_76_41_f, X_76_41, X_76_44, X_76_47, X_76_48, X_76_49, X_76_50, X_76_53, X_76_54, X_76_55, X_76_58_t, X_76_58_f, X_76_58, X_76_61, X_76_62, X_76_65, X_76_66, X_76_67, X_76_70, X_76_73, X_76_74, X_76_75, X_76_76, X_76_77, X_76_80, X_76_83, X_76_84, X_76_86, X_76_88_t, X_76_88_f, X_76_88, X_76_91, X_76_92, X_76_95, X_76_96, X_76_97, X_76_98, X_76_101, X_76_102, X_76_105, X_76_108, X_76_109, X_76_111, X_76_112_t, X_76_112_f, X_76_112, X_76_115, X_76_116, X_76_119, X_76_120, X_76_121, X_76_122, X_76_125, X_76_126, X_76_129, X_76_132, X_76_133, r1_0_1, hR.1, c, pushR_some, Int.toNat_natCast, fixp_i, fixp_r, fixp_n, fixp_l2, natS]
theorem C_dig2n {d : Nat} {x : Int} {h : AH} {Q : Option AV → AG → AH → Prop} (hd : 1 ≤ d) (h8 : h 3 8 = 0) : call d 98 [.inr (.inr (some 0)), .inr (.inl x)] G1 h Q = Q (some (.inr (.inl x))) G1 h := by
  obtain ⟨d, rfl, hd2⟩ := pos_of hd
  have g0 := g1_0
  have g3 := g1_3
  rw [C_98]
  simp (disch := omega) only [X_98_5, X_98_0, X_98_1, X_98_2, X_98_3, X_98_6, X_98_9, X_98_12_t, X_98_12_f, X_98_12, X_98_15, X_98_17, X_98_19_t, X_98_19_f, X_98_19, X_98_22, X_98_23, X_98_27, X_98_28_t, X_98_28_f, X_98_28, X_98_31, X_98_34, X_98_35, X_98_36, X_98_37, X_98_39, X_98_41, X_98_44, X_98_45, X_98_46, X_98_47, X_98_50, X_98_53, X_98_56, X_98_59, X_98_60, r1_0_2, fixp_r, fixp_n, fixp_l2]
theorem L_dig2 {d : Nat} {x : Int} {h : AH} {Q : Option AV → AG → AH → Prop} (hd : 4 ≤ d) (h8 : h 3 8 = 1) (L3 : FUL h 3 (h 64)) : ∀ (m i : Nat) (a : Int) (l6 : Option AV), i + m = 14 → wp d 98 5 [some (.inr (.inr (some 0))), some (.inr (.inl x)), none, some (.inr (.inl a)), none, some (.inl (i : Int)), l6] [] G1 h Q = Q (some (.inr (.inl (foldN (d2 h) m i a)))) G1 h := by
  have g0 := g1_0
  have g3 := g1_3
  have hf := FUL_ty L3
  intro m
  induction m with
  | zero =>
    intro i a l6 hi
    obtain rfl : i = 14 := by omega
    simp (disch := omega) only [X_98_5, X_98_0, X_98_1, X_98_2, X_98_3, X_98_6, X_98_9, X_98_12_t, X_98_12_f, X_98_12, X_98_15, X_98_17, X_98_19_t, X_98_19_f, X_98_19, X_98_22, X_98_23, X_98_27, X_98_28_t, X_98_28_f, X_98_28, X_98_31, X_98_34, X_98_35, X_98_36, X_98_37, X_98_39, X_98_41, X_98_44, X_98_45, X_98_46, X_98_47, X_98_50, X_98_53, X_98_56, X_98_59, X_98_60, r1_0_2, foldN]
  | succ m ih =>
    intro i a l6 hi
    obtain ⟨c0, hc, hci, k6⟩ := d2_p (n := 0) L3 (show i < 14 by omega)
    have cS : ∀ (w : Int) Q, 0 ≤ w ∧ w < 5 → call d 97 [.inr (.inr (some 0)), .inl (i : Int), .inl w] G1 h Q = Q (some (.inl (bsF (h 64) i c0 w))) G1 h := fun w Q hw => S_beadSays hd (by omega) hw L3.1 hf hc hci
    have b0 := bsF_bd (i := i) (w := 0) (by omega) (by omega) hf hc
    have b1 := bsF_bd (i := i) (w := 1) (by omega) (by omega) hf hc
    have b2 := bsF_bd (i := i) (w := 2) (by omega) (by omega) hf hc
    have b3 := bsF_bd (i := i) (w := 3) (by omega) (by omega) hf hc
    have b4 := bsF_bd (i := i) (w := 4) (by omega) (by omega) hf hc
    have e : d2 h a i = 31 * (31 * (31 * (31 * (31 * a + bsF (h 64) i c0 0) + bsF (h 64) i c0 1) + bsF (h 64) i c0 2) + bsF (h 64) i c0 3) + bsF (h 64) i c0 4 := by
      unfold d2
      rw [k6, Int.toNat_natCast]
      rfl
    refine Eq.trans ?_ (ih (i + 1) (d2 h a i) (some (.inl 5)) (by omega))
    rw [e]
    conv => lhs; rw [X_98_5]
    conv => lhs; simp (disch := omega) only [X_98_25, X_98_0, X_98_1, X_98_2, X_98_3, X_98_6, X_98_9, X_98_12_t, X_98_12_f, X_98_12, X_98_15, X_98_17, X_98_19_t, X_98_19_f, X_98_19, X_98_22, X_98_23, X_98_27, X_98_28_t, X_98_28_f, X_98_28, X_98_31, X_98_34, X_98_35, X_98_36, X_98_37, X_98_39, X_98_41, X_98_44, X_98_45, X_98_46, X_98_47, X_98_50, X_98_53, X_98_56, X_98_59, X_98_60, r1_0_2, cS, pushR_some, fixp_i, fixp_r, fixp_n, fixp_l2, natS, Int.reduceAdd]
theorem C_dig2t {d : Nat} {x : Int} {h : AH} {Q : Option AV → AG → AH → Prop} (hd : 5 ≤ d) (h8 : h 3 8 = 1) (L3 : FUL h 3 (h 64)) : call d 98 [.inr (.inr (some 0)), .inr (.inl x)] G1 h Q = Q (some (.inr (.inl (foldN (d2 h) 14 0 x)))) G1 h := by
  obtain ⟨d, rfl, hd2⟩ := pos_of hd
  rw [C_98]
  simp (disch := omega) only [X_98_0, X_98_1, X_98_2, X_98_3, X_98_6, X_98_9, X_98_12_t, X_98_12_f, X_98_12, X_98_15, X_98_17, X_98_19_t, X_98_19_f, X_98_19, X_98_22, X_98_23, X_98_27, X_98_28_t, X_98_28_f, X_98_28, X_98_31, X_98_34, X_98_35, X_98_36, X_98_37, X_98_39, X_98_41, X_98_44, X_98_45, X_98_46, X_98_47, X_98_50, X_98_53, X_98_56, X_98_59, X_98_60, fixp_r, fixp_n, fixp_l2]
  exact L_dig2 hd2 h8 L3 14 0 x none rfl
/-- the whole of it -/
def dig (h : AH) : Int := foldN (d5 h) 4 0 (foldN (d4 h) 6 0 (foldN (d3 h) 3 0 (if h 63 1 = 0 then foldN (d1 h) 12 0 17 else foldN (d2 h) 14 0 (foldN (d1 h) 12 0 17))))
theorem S_digest {n : Nat} {h : AH} {Q : Option AV → AG → AH → Prop} (H : INV n h) : call 30 76 [.inr (.inr (some 0))] G1 h Q = Q (some (.inr (.inl (dig h)))) G1 h := by
  have g0 := g1_0
  have cD : ∀ x Q, call 29 98 [.inr (.inr (some 0)), .inr (.inl x)] G1 h Q = Q (some (.inr (.inl (if h 63 1 = 0 then x else foldN (d2 h) 14 0 x)))) G1 h := fun x Q => by
    rcases LIV_c H with ⟨L1, L2, _⟩ | ⟨L1, L2, L3⟩
    · rw [C_dig2n (by omega) L2, if_pos L1]
    · rw [C_dig2t (by omega) L2 L3, if_neg (by omega)]
  rw [C_76]
  simp (disch := omega) only [X_76_0, X_76_3, X_76_4, X_76_5, X_76_7, X_76_9_t, X_76_9_f, X_76_9, X_76_12, X_76_15, X_76_16, X_76_17, X_76_18, X_76_19, X_76_22, X_76_23, X_76_24, X_76_25, X_76_28, X_76_31, X_76_32, X_76_33, X_76_36, X_76_37, X_76_38, X_76_40, X_76_41_t, X_76_41_f, X_76_41, X_76_44, X_76_47, X_76_48, X_76_49, X_76_50, X_76_53, X_76_54, X_76_55, X_76_58_t, X_76_58_f, X_76_58, X_76_61, X_76_62, X_76_65, X_76_66, X_76_67, X_76_70, X_76_73, X_76_74, X_76_75, X_76_76, X_76_77, X_76_80, X_76_83, X_76_84, X_76_86, X_76_88_t, X_76_88_f, X_76_88, X_76_91, X_76_92, X_76_95, X_76_96, X_76_97, X_76_98, X_76_101, X_76_102, X_76_105, X_76_108, X_76_109, X_76_111, X_76_112_t, X_76_112_f, X_76_112, X_76_115, X_76_116, X_76_119, X_76_120, X_76_121, X_76_122, X_76_125, X_76_126, X_76_129, X_76_132, X_76_133, fixp_r, fixp_n, fixp_l2]
  refine (C_dig1 (d := 29) (by omega) H 12 0 17 rfl).trans ?_
  conv => lhs; rw [X_76_6]
  simp (disch := omega) only [X_76_0, X_76_3, X_76_4, X_76_5, X_76_7, X_76_9_t, X_76_9_f, X_76_9, X_76_12, X_76_15, X_76_16, X_76_17, X_76_18, X_76_19, X_76_22, X_76_23, X_76_24, X_76_25, X_76_28, X_76_31, X_76_32, X_76_33, X_76_36, X_76_37, X_76_38, X_76_40, X_76_41_t, X_76_41_f, X_76_41, X_76_44, X_76_47, X_76_48, X_76_49, X_76_50, X_76_53, X_76_54, X_76_55, X_76_58_t, X_76_58_f, X_76_58, X_76_61, X_76_62, X_76_65, X_76_66, X_76_67, X_76_70, X_76_73, X_76_74, X_76_75, X_76_76, X_76_77, X_76_80, X_76_83, X_76_84, X_76_86, X_76_88_t, X_76_88_f, X_76_88, X_76_91, X_76_92, X_76_95, X_76_96, X_76_97, X_76_98, X_76_101, X_76_102, X_76_105, X_76_108, X_76_109, X_76_111, X_76_112_t, X_76_112_f, X_76_112, X_76_115, X_76_116, X_76_119, X_76_120, X_76_121, X_76_122, X_76_125, X_76_126, X_76_129, X_76_132, X_76_133, cD, pushR_some, fixp_r, fixp_n, fixp_l2]
  refine (C_dig3 (d := 29) (by omega) H 3 0 _ rfl).trans ?_
  conv => lhs; rw [X_76_39]
  simp (disch := omega) only [X_76_0, X_76_3, X_76_4, X_76_5, X_76_7, X_76_9_t, X_76_9_f, X_76_9, X_76_12, X_76_15, X_76_16, X_76_17, X_76_18, X_76_19, X_76_22, X_76_23, X_76_24, X_76_25, X_76_28, X_76_31, X_76_32, X_76_33, X_76_36, X_76_37, X_76_38, X_76_40, X_76_41_t, X_76_41_f, X_76_41, X_76_44, X_76_47, X_76_48, X_76_49, X_76_50, X_76_53, X_76_54, X_76_55, X_76_58_t, X_76_58_f, X_76_58, X_76_61, X_76_62, X_76_65, X_76_66, X_76_67, X_76_70, X_76_73, X_76_74, X_76_75, X_76_76, X_76_77, X_76_80, X_76_83, X_76_84, X_76_86, X_76_88_t, X_76_88_f, X_76_88, X_76_91, X_76_92, X_76_95, X_76_96, X_76_97, X_76_98, X_76_101, X_76_102, X_76_105, X_76_108, X_76_109, X_76_111, X_76_112_t, X_76_112_f, X_76_112, X_76_115, X_76_116, X_76_119, X_76_120, X_76_121, X_76_122, X_76_125, X_76_126, X_76_129, X_76_132, X_76_133, fixp_r, fixp_n, fixp_l2]
  refine (C_dig4 (d := 29) (by omega) H 6 0 _ rfl).trans ?_
  conv => lhs; rw [X_76_85]
  simp (disch := omega) only [X_76_0, X_76_3, X_76_4, X_76_5, X_76_7, X_76_9_t, X_76_9_f, X_76_9, X_76_12, X_76_15, X_76_16, X_76_17, X_76_18, X_76_19, X_76_22, X_76_23, X_76_24, X_76_25, X_76_28, X_76_31, X_76_32, X_76_33, X_76_36, X_76_37, X_76_38, X_76_40, X_76_41_t, X_76_41_f, X_76_41, X_76_44, X_76_47, X_76_48, X_76_49, X_76_50, X_76_53, X_76_54, X_76_55, X_76_58_t, X_76_58_f, X_76_58, X_76_61, X_76_62, X_76_65, X_76_66, X_76_67, X_76_70, X_76_73, X_76_74, X_76_75, X_76_76, X_76_77, X_76_80, X_76_83, X_76_84, X_76_86, X_76_88_t, X_76_88_f, X_76_88, X_76_91, X_76_92, X_76_95, X_76_96, X_76_97, X_76_98, X_76_101, X_76_102, X_76_105, X_76_108, X_76_109, X_76_111, X_76_112_t, X_76_112_f, X_76_112, X_76_115, X_76_116, X_76_119, X_76_120, X_76_121, X_76_122, X_76_125, X_76_126, X_76_129, X_76_132, X_76_133, fixp_r, fixp_n, fixp_l2]
  refine (C_dig5 (d := 29) (by omega) H 4 0 _ rfl).trans ?_
  conv => lhs; rw [X_76_110]
  simp (disch := omega) only [X_76_0, X_76_3, X_76_4, X_76_5, X_76_7, X_76_9_t, X_76_9_f, X_76_9, X_76_12, X_76_15, X_76_16, X_76_17, X_76_18, X_76_19, X_76_22, X_76_23, X_76_24, X_76_25, X_76_28, X_76_31, X_76_32, X_76_33, X_76_36, X_76_37, X_76_38, X_76_40, X_76_41_t, X_76_41_f, X_76_41, X_76_44, X_76_47, X_76_48, X_76_49, X_76_50, X_76_53, X_76_54, X_76_55, X_76_58_t, X_76_58_f, X_76_58, X_76_61, X_76_62, X_76_65, X_76_66, X_76_67, X_76_70, X_76_73, X_76_74, X_76_75, X_76_76, X_76_77, X_76_80, X_76_83, X_76_84, X_76_86, X_76_88_t, X_76_88_f, X_76_88, X_76_91, X_76_92, X_76_95, X_76_96, X_76_97, X_76_98, X_76_101, X_76_102, X_76_105, X_76_108, X_76_109, X_76_111, X_76_112_t, X_76_112_f, X_76_112, X_76_115, X_76_116, X_76_119, X_76_120, X_76_121, X_76_122, X_76_125, X_76_126, X_76_129, X_76_132, X_76_133, fixp_r, fixp_n, fixp_l2]
  rfl
