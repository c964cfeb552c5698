/-! 39: fault, toy -/
theorem tl14 {g : TF} {L : Nat} : ∀ {m i : Nat} {T : TF}, tlF g L m 14 i T = T
  | 0, _, _ => rfl
  | m + 1, i, T => by
    unfold tlF
    by_cases e : L ≤ i
    · rw [if_pos e]
    · rw [if_neg e]
      by_cases e2 : g i = 32
      · rw [if_pos e2]; exact tl14
      · rw [if_neg e2, if_pos (Or.inl rfl)]
theorem ff_end {g : TF} {L m b i : Nat} (hb : ¬ b = 14) (hi : L ≤ i) : ffF g L m b i = (L : Int) := by
  cases m with
  | zero => unfold ffF; rw [if_neg hb]
  | succ m => unfold ffF; rw [if_pos hi, if_neg hb]
theorem ff_go {g : TF} {L m b i : Nat} (hb : ¬ b = 14) (hi : i ≤ L) (h : ffF g L m b i = -9) : i + 1 < L ∧ ∃ m', m = m' + 1 ∧ ((g i = 32 ∧ ffF g L m' b (i + 1) = -9) ∨ (¬ g i = 32 ∧ ¬ kb (g i) = -9 ∧ (48 ≤ g (i + 1) ∧ g (i + 1) ≤ 57) ∧ ffF g L m' (b + 1) (i + 2) = -9)) := by
  by_cases e0 : L ≤ i
  · rw [ff_end hb e0] at h; omega
  cases m with
  | zero => unfold ffF at h; rw [if_neg hb] at h; omega
  | succ m =>
    unfold ffF at h
    rw [if_neg e0] at h
    by_cases e1 : g i = 32
    · rw [if_pos e1] at h
      have : i + 1 < L := by
        rcases Nat.lt_or_ge (i + 1) L with z | z
        · exact z
        · rw [ff_end hb z] at h; omega
      exact ⟨this, m, rfl, Or.inl ⟨e1, h⟩⟩
    · rw [if_neg e1] at h
      by_cases e2 : b = 14 ∨ kb (g i) = -9
      · rw [if_pos e2] at h; omega
      · rw [if_neg e2] at h
        by_cases e3 : i + 1 = L
        · rw [if_pos e3] at h; omega
        · rw [if_neg e3] at h
          by_cases e4 : 48 ≤ g (i + 1) ∧ g (i + 1) ≤ 57
          · rw [if_pos e4] at h
            exact ⟨by omega, m, rfl, Or.inr ⟨e1, fun z => e2 (Or.inr z), e4, h⟩⟩
          · rw [if_neg e4] at h; omega
def RB (h : AH) (T : TF) (b : Nat) : Prop := ∀ k, k < b → (h 4 k = T k ∧ 0 ≤ T k ∧ T k ≤ 5) ∧ h 5 k = T (14 + k) ∧ 0 ≤ T (14 + k) ∧ T (14 + k) ≤ 9
theorem L_readBeads {d q L : Nat} {g : TF} (hd : 1 ≤ d) (hq : isRw q) (hm : L ≤ rwL q) (hg : ∀ k, k < L → -128 ≤ g k ∧ g k ≤ 127) : ∀ (m b i : Nat) (T : TF) (h : AH), h q 2 = (L : Int) → (∀ k, k < L → h (q + 1) k = g k) → i ≤ L → b ≤ 14 → ffF g L m b i = -9 → RB h T b → ∃ h', (∀ Q, wp d 96 4 [some (.inr (.inr (some 0))), some (.inr (.inr (some q))), some (.inl (b : Int)), some (.inl (i : Int))] [] G1 h Q = Q none G1 h') ∧ (∀ a, ¬ a = 4 → ¬ a = 5 → h' a = h a) ∧ RB h' (tlF g L m b i T) 14 := by
  have hs := rw_s hq
  have hq2 : 22 ≤ q ∧ q ≤ 40 := by unfold isRw at hq; omega
  have g0 := g1_0
  have t3 : isToy 3 := Or.inl rfl
  have s3 := toy_s t3
  intro m
  induction m with
  | zero =>
    intro b i T h a1 a2 a3 a4 a5 a6
    by_cases e : b = 14
    · subst e
      refine ⟨h, fun Q => ?_, fun _ _ _ => rfl, a6⟩
      by_cases e2 : i + 1 < L
      · simp (disch := omega) only [X_96_4, X_96_0, X_96_1, X_96_2, X_96_3, X_96_5, X_96_6, X_96_7, X_96_8, X_96_11_t, X_96_11_f, X_96_11, X_96_14, X_96_15, X_96_17_t, X_96_17_f, X_96_17, X_96_20, X_96_21, X_96_22, X_96_25, X_96_27_t, X_96_27_f, X_96_27, X_96_30, X_96_31, X_96_34, X_96_35, X_96_36, X_96_37, X_96_40, X_96_43, X_96_46, X_96_47, X_96_50, X_96_51, X_96_52, X_96_53, X_96_54, X_96_55, X_96_58, X_96_60, X_96_61, X_96_64, X_96_67, X_96_70, X_96_73, X_96_76, a1]
      · simp (disch := omega) only [X_96_4, X_96_0, X_96_1, X_96_2, X_96_3, X_96_5, X_96_6, X_96_7, X_96_8, X_96_11_t, X_96_11_f, X_96_11, X_96_14, X_96_15, X_96_17_t, X_96_17_f, X_96_17, X_96_20, X_96_21, X_96_22, X_96_25, X_96_27_t, X_96_27_f, X_96_27, X_96_30, X_96_31, X_96_34, X_96_35, X_96_36, X_96_37, X_96_40, X_96_43, X_96_46, X_96_47, X_96_50, X_96_51, X_96_52, X_96_53, X_96_54, X_96_55, X_96_58, X_96_60, X_96_61, X_96_64, X_96_67, X_96_70, X_96_73, X_96_76, a1]
    · obtain ⟨_, m', h1, _⟩ := ff_go e a3 a5
      omega
  | succ m ih =>
    intro b i T h a1 a2 a3 a4 a5 a6
    by_cases e : b = 14
    · subst e
      refine ⟨h, fun Q => ?_, fun _ _ _ => rfl, by rw [tl14]; exact a6⟩
      by_cases e2 : i + 1 < L
      · simp (disch := omega) only [X_96_4, X_96_0, X_96_1, X_96_2, X_96_3, X_96_5, X_96_6, X_96_7, X_96_8, X_96_11_t, X_96_11_f, X_96_11, X_96_14, X_96_15, X_96_17_t, X_96_17_f, X_96_17, X_96_20, X_96_21, X_96_22, X_96_25, X_96_27_t, X_96_27_f, X_96_27, X_96_30, X_96_31, X_96_34, X_96_35, X_96_36, X_96_37, X_96_40, X_96_43, X_96_46, X_96_47, X_96_50, X_96_51, X_96_52, X_96_53, X_96_54, X_96_55, X_96_58, X_96_60, X_96_61, X_96_64, X_96_67, X_96_70, X_96_73, X_96_76, a1]
      · simp (disch := omega) only [X_96_4, X_96_0, X_96_1, X_96_2, X_96_3, X_96_5, X_96_6, X_96_7, X_96_8, X_96_11_t, X_96_11_f, X_96_11, X_96_14, X_96_15, X_96_17_t, X_96_17_f, X_96_17, X_96_20, X_96_21, X_96_22, X_96_25, X_96_27_t, X_96_27_f, X_96_27, X_96_30, X_96_31, X_96_34, X_96_35, X_96_36, X_96_37, X_96_40, X_96_43, X_96_46, X_96_47, X_96_50, X_96_51, X_96_52, X_96_53, X_96_54, X_96_55, X_96_58, X_96_60, X_96_61, X_96_64, X_96_67, X_96_70, X_96_73, X_96_76, a1]
    · obtain ⟨b1, m', h1, hc⟩ := ff_go e a3 a5
      obtain rfl : m = m' := by omega
      have q1 := a2 i (by omega)
      have q2 := hg i (by omega)
      rcases hc with ⟨c1, c2⟩ | ⟨c1, c2, c3, c4⟩
      · obtain ⟨h', r1, r2, r3⟩ := ih b (i + 1) T h a1 a2 (by omega) a4 c2 a6
        refine ⟨h', fun Q => ?_, r2, ?_⟩
        · refine Eq.trans ?_ (r1 Q)
          rw [X_96_4]
          simp (disch := omega) only [X_96_0, X_96_1, X_96_2, X_96_3, X_96_5, X_96_6, X_96_7, X_96_8, X_96_11_t, X_96_11_f, X_96_11, X_96_14, X_96_15, X_96_17_t, X_96_17_f, X_96_17, X_96_20, X_96_21, X_96_22, X_96_25, X_96_27_t, X_96_27_f, X_96_27, X_96_30, X_96_31, X_96_34, X_96_35, X_96_36, X_96_37, X_96_40, X_96_43, X_96_46, X_96_47, X_96_50, X_96_51, X_96_52, X_96_53, X_96_54, X_96_55, X_96_58, X_96_60, X_96_61, X_96_64, X_96_67, X_96_70, X_96_73, X_96_76, a1, S_get, pushR_some, Int.toNat_natCast, q1, fixp_i, fixp_r, natS]
        · unfold tlF
          rw [if_neg (by omega), if_pos c1]
          exact r3
      · have q3 := a2 (i + 1) (by omega)
        have q4 := hg (i + 1) (by omega)
        have k1 := kb_bd (x := g i)
        generalize e1 : put h 4 b (kb (g i)) = h1
        generalize e2 : put h1 5 b (g (i + 1) - 48) = h2
        have w : ∀ a, ¬ a = 4 → ¬ a = 5 → h2 a = h a := fun a z1 z2 => by rw [← e2, put_row z2, ← e1, put_row z1]
        have w1 : h1 (q + 1) (i + 1) = g (i + 1) := by rw [← e1, put_row (by omega), q3]
        obtain ⟨h', r1, r2, r3⟩ := ih (b + 1) (i + 1 + 1) (putR (putR T b (kb (g i))) (14 + b) (g (i + 1) - 48)) h2 (by rw [w q (by omega) (by omega), a1]) (fun k hk => by rw [w _ (by omega) (by omega), a2 k hk]) (by omega) (by omega) c4 (fun k hk => by
          have v4 : h2 4 = putR (h 4) b (kb (g i)) := by rw [← e2, put_row (by omega), ← e1, put_set, setR_s]
          have v5 : h2 5 = putR (h 5) b (g (i + 1) - 48) := by rw [← e2, put_set, setR_s, ← e1, put_row (by omega)]
          rw [v4, v5]
          by_cases z : k = b
          · subst z
            rw [putR_s, putR_s, putR_s, putR_n (show ¬ k = 14 + k by omega), putR_s]
            omega
          · have := a6 k (by omega)
            rw [putR_n z, putR_n z, putR_n (show ¬ k = 14 + b by omega), putR_n z, putR_n (show ¬ 14 + k = 14 + b by omega), putR_n (show ¬ 14 + k = b by omega)]
            exact this)
        refine ⟨h', fun Q => ?_, fun a z1 z2 => by rw [r2 a z1 z2, w a z1 z2], ?_⟩
        · refine Eq.trans ?_ (r1 Q)
          rw [X_96_4]
          simp (disch := omega) only [X_96_0, X_96_1, X_96_2, X_96_3, X_96_5, X_96_6, X_96_7, X_96_8, X_96_11_t, X_96_11_f, X_96_11, X_96_14, X_96_15, X_96_17_t, X_96_17_f, X_96_17, X_96_20, X_96_21, X_96_22, X_96_25, X_96_27_t, X_96_27_f, X_96_27, X_96_30, X_96_31, X_96_34, X_96_35, X_96_36, X_96_37, X_96_40, X_96_43, X_96_46, X_96_47, X_96_50, X_96_51, X_96_52, X_96_53, X_96_54, X_96_55, X_96_58, X_96_60, X_96_61, X_96_64, X_96_67, X_96_70, X_96_73, X_96_76, a1, S_get, S_kindOf, S_setKind, S_setColour, pushR_some, pushR_none, r1_0_2, Int.toNat_natCast, q1, fixp_i, fixp_r, natS, Nat.reduceAdd, e1, w1, e2]
        · unfold tlF
          rw [if_neg (by omega), if_neg c1, if_neg (by omega), if_neg (by omega), if_pos c3]
          exact r3
theorem Op_fault {r : Int} (h_r : -2147483648 ≤ r ∧ r < 2147483648) : OpI 47 135 [.inl r] := by
  intro n h H hn
  have g0 := g1_0
  have g1 := g1_2
  have g63 := g1_63
  have g68 := g1_70
  have g67 := g1_69
  by_cases h1 : 0 ≤ r ∧ r < 4
  case neg =>
    refine OpI_same (r := -1) (by omega) H (fun Q => ?_) (fun Q => ?_)
    · rw [C_47]
      simp (disch := omega) only [X_47_0, X_47_1, X_47_4_t, X_47_4_f, X_47_4, X_47_7, X_47_8, X_47_9, X_47_10, X_47_13, X_47_14, X_47_15, X_47_18_t, X_47_18_f, X_47_18, X_47_21, X_47_22, X_47_23, X_47_26, X_47_29, X_47_30, X_47_33, X_47_34, X_47_35, X_47_38, S_isText_f, pushR_some]
    · rw [C_135]
      simp (disch := omega) only [X_135_0, X_135_1, X_135_4_t, X_135_4_f, X_135_4, X_135_7, X_135_8, X_135_9, X_135_10, X_135_13, X_135_14, X_135_15_t, X_135_15_f, X_135_15, X_135_18, X_135_19, X_135_20, X_135_23, X_135_26, X_135_27, X_135_28, X_135_31, S3_isText_f, pushR_some]
  obtain ⟨r, rfl⟩ := nat_of h1.1
  have hr6 : r < 4 := by omega
  have hR := texts_r hr6
  have hL := rwL_t hr6
  have hw := hR.2
  have hs := rw_s hw
  have R := H.2.2.2.1 r hr6
  unfold TxtR at R
  obtain ⟨R1, R2, R3, R4, R5⟩ := R
  by_cases h2 : h 70 r < 0
  case pos =>
    refine OpI_find (w := 1) (by omega) H (fun Q => ?_) (fun Q => ?_)
    · rw [C_47]
      simp (disch := omega) only [X_47_0, X_47_1, X_47_4_t, X_47_4_f, X_47_4, X_47_7, X_47_8, X_47_9, X_47_10, X_47_13, X_47_14, X_47_15, X_47_18_t, X_47_18_f, X_47_18, X_47_21, X_47_22, X_47_23, X_47_26, X_47_29, X_47_30, X_47_33, X_47_34, X_47_35, X_47_38, S_isText_t, pushR_some, r1_0_1, Int.toNat_natCast, hR.1, S_isMissing_t, S_found]
    · rw [C_135]
      simp (disch := omega) only [X_135_0, X_135_1, X_135_4_t, X_135_4_f, X_135_4, X_135_7, X_135_8, X_135_9, X_135_10, X_135_13, X_135_14, X_135_15_t, X_135_15_f, X_135_15, X_135_18, X_135_19, X_135_20, X_135_23, X_135_26, X_135_27, X_135_28, X_135_31, S3_isText_t, pushR_some, r1_63_6, r1_63_7, Int.toNat_natCast, S3_finds, fnd_o]
  obtain ⟨L, hLe⟩ := nat_of (x := h 70 r) (by omega)
  have hb := ffF_bd (g := fun k => h 69 (60 * r + k)) (L := L) (m := L) (b := 0) (i := 0)
  have cF : ∀ Q, call 29 95 [.inr (.inr (some (34 + 2 * r)))] G1 h Q = Q (some (.inl (ffF (fun k => h 69 (60 * r + k)) L L 0 0))) G1 h := fun Q => S_firstFault (by omega) hw (by omega) (by omega) (fun k hk => by rw [q35]; exact R5 k (by omega))
  have cM : ∀ Q, call 29 134 [.inr (.inr (some 63)), .inl (r : Int)] G1 h Q = _ := fun Q => S3_faultOf (by omega) hr6 hLe (by omega) (fun k hk => (R5 k (by omega)).2)
  generalize ffF (fun k => h 69 (60 * r + k)) L L 0 0 = F at hb cF cM
  generalize tlF (fun k => h 69 (60 * r + k)) L L 0 0 (h 73) = T at cM
  refine ⟨F, h, setR h 73 T, by omega, fun Q => ?_, fun Q => ?_, INV_same (INV_scr H (fun a ha => setR_n (fun z => ha (by unfold scr; omega))) (fun s hs => by rw [setR_n (by omega)]; exact H.2.1 s hs))⟩
  · rw [C_47]
    simp (disch := omega) only [X_47_0, X_47_1, X_47_4_t, X_47_4_f, X_47_4, X_47_7, X_47_8, X_47_9, X_47_10, X_47_13, X_47_14, X_47_15, X_47_18_t, X_47_18_f, X_47_18, X_47_21, X_47_22, X_47_23, X_47_26, X_47_29, X_47_30, X_47_33, X_47_34, X_47_35, X_47_38, S_isText_t, pushR_some, r1_0_1, Int.toNat_natCast, hR.1, S_isMissing_f, cF]
  · rw [C_135]
    simp (disch := omega) only [X_135_0, X_135_1, X_135_4_t, X_135_4_f, X_135_4, X_135_7, X_135_8, X_135_9, X_135_10, X_135_13, X_135_14, X_135_15_t, X_135_15_f, X_135_15, X_135_18, X_135_19, X_135_20, X_135_23, X_135_26, X_135_27, X_135_28, X_135_31, S3_isText_t, pushR_some, r1_63_6, r1_63_7, Int.toNat_natCast, cM]
theorem L3_toy1 {d r : Nat} {h : AH} {Q : Option AV → AG → AH → Prop} : ∀ (n i : Nat), i + n = 28 → wp d 136 39 [some (.inr (.inr (some 63))), some (.inl (r : Int)), some (.inl (i : Int))] [] G1 (setR h 64 (mixR i (h 73) (h 64))) Q = wp d 136 39 [some (.inr (.inr (some 63))), some (.inl (r : Int)), some (.inl ((28 : Nat) : Int))] [] G1 (setR h 64 (mixR 28 (h 73) (h 64))) Q := by
  intro n
  have g0 := g1_63
  have g1 := g1_64
  have g2 := g1_73
  induction n with
  | zero =>
    intro k hk
    obtain rfl : k = 28 := by omega
    rfl
  | succ n ih =>
    intro k hk
    have q := ih (k + 1) (by omega)
    refine Eq.trans ?_ q
    conv => lhs; rw [X_136_39]
    conv => lhs; simp (disch := omega) only [X_136_0, X_136_1, X_136_4_t, X_136_4_f, X_136_4, X_136_7, X_136_8, X_136_9, X_136_10, X_136_13, X_136_14, X_136_15_t, X_136_15_f, X_136_15, X_136_18, X_136_19, X_136_20, X_136_23, X_136_24, X_136_25, X_136_26, X_136_29, X_136_31_t, X_136_31_f, X_136_31, X_136_34, X_136_36, X_136_37, X_136_38, X_136_40, X_136_42_t, X_136_42_f, X_136_42, X_136_45, X_136_46, X_136_49, X_136_50, X_136_51, X_136_54, X_136_55, X_136_56, X_136_57, X_136_60, X_136_63, X_136_64, X_136_67, X_136_69, X_136_70, X_136_71, X_136_72, X_136_75, X_136_78, X_136_79, X_136_80, X_136_83, X_136_84, X_136_86, X_136_87_t, X_136_87_f, X_136_87, X_136_90, X_136_91, X_136_94, X_136_95, X_136_96, X_136_97, X_136_100, X_136_103, X_136_105, r1_63_0, r1_63_14, Int.toNat_natCast, fixp_i, natS, put_set, setR_s, setR_n, setR_2]
    rw [← mix_put (f := h 73)]
theorem bg_bg {f : TF} : bgF (bgF f) = bgF f := by
  funext s
  by_cases h1 : 69 ≤ s ∧ s < 83
  · unfold bgF; rw [if_pos h1, if_pos h1]
  · by_cases h2 : 83 ≤ s ∧ s < 98
    · unfold bgF; rw [if_neg h1, if_neg h1, if_pos h2, if_pos h2]
    · rw [bgF_n (by omega)]
theorem Op_toy {r : Int} (h_r : -2147483648 ≤ r ∧ r < 2147483648) : OpI 48 136 [.inl r] := by
  intro n h H hn
  have g0 := g1_0
  have g1 := g1_2
  have g17 := g1_17
  have g63 := g1_63
  have g68 := g1_70
  have g67 := g1_69
  have g64 := g1_64
  have g66 := g1_66
  have g42 := g1_42
  have g49 := g1_49
  have g56 := g1_56
  have t3 : isToy 3 := Or.inl rfl
  have s3 := toy_s t3
  by_cases h1 : 0 ≤ r ∧ r < 4
  case neg =>
    refine OpI_same (r := -1) (by omega) H (fun Q => ?_) (fun Q => ?_)
    · rw [C_48]
      simp (disch := omega) only [X_48_0, X_48_1, X_48_4_t, X_48_4_f, X_48_4, X_48_7, X_48_8, X_48_9, X_48_10, X_48_13, X_48_14, X_48_15, X_48_18_t, X_48_18_f, X_48_18, X_48_21, X_48_22, X_48_23, X_48_26, X_48_27, X_48_28, X_48_31, X_48_32, X_48_33, X_48_36, X_48_38_t, X_48_38_f, X_48_38, X_48_41, X_48_43, X_48_44, X_48_45, X_48_48, X_48_51, X_48_52, X_48_53, X_48_56, X_48_57, X_48_58, X_48_61, X_48_62, X_48_64, X_48_65_t, X_48_65_f, X_48_65, X_48_68, X_48_69, X_48_72, X_48_73, X_48_74, X_48_75, X_48_78, X_48_81, X_48_84, X_48_86, S_isText_f, pushR_some]
    · rw [C_136]
      simp (disch := omega) only [X_136_0, X_136_1, X_136_4_t, X_136_4_f, X_136_4, X_136_7, X_136_8, X_136_9, X_136_10, X_136_13, X_136_14, X_136_15_t, X_136_15_f, X_136_15, X_136_18, X_136_19, X_136_20, X_136_23, X_136_24, X_136_25, X_136_26, X_136_29, X_136_31_t, X_136_31_f, X_136_31, X_136_34, X_136_36, X_136_37, X_136_38, X_136_40, X_136_42_t, X_136_42_f, X_136_42, X_136_45, X_136_46, X_136_49, X_136_50, X_136_51, X_136_54, X_136_55, X_136_56, X_136_57, X_136_60, X_136_63, X_136_64, X_136_67, X_136_69, X_136_70, X_136_71, X_136_72, X_136_75, X_136_78, X_136_79, X_136_80, X_136_83, X_136_84, X_136_86, X_136_87_t, X_136_87_f, X_136_87, X_136_90, X_136_91, X_136_94, X_136_95, X_136_96, X_136_97, X_136_100, X_136_103, X_136_105, S3_isText_f, pushR_some]
  obtain ⟨r, rfl⟩ := nat_of h1.1
  have hr6 : r < 4 := by omega
  have hR := texts_r hr6
  have hL := rwL_t hr6
  have hw := hR.2
  have hs := rw_s hw
  have R := H.2.2.2.1 r hr6
  unfold TxtR at R
  obtain ⟨R1, R2, R3, R4, R5⟩ := R
  by_cases h2 : h 70 r < 0
  case pos =>
    refine OpI_find (w := 1) (by omega) H (fun Q => ?_) (fun Q => ?_)
    · rw [C_48]
      simp (disch := omega) only [X_48_0, X_48_1, X_48_4_t, X_48_4_f, X_48_4, X_48_7, X_48_8, X_48_9, X_48_10, X_48_13, X_48_14, X_48_15, X_48_18_t, X_48_18_f, X_48_18, X_48_21, X_48_22, X_48_23, X_48_26, X_48_27, X_48_28, X_48_31, X_48_32, X_48_33, X_48_36, X_48_38_t, X_48_38_f, X_48_38, X_48_41, X_48_43, X_48_44, X_48_45, X_48_48, X_48_51, X_48_52, X_48_53, X_48_56, X_48_57, X_48_58, X_48_61, X_48_62, X_48_64, X_48_65_t, X_48_65_f, X_48_65, X_48_68, X_48_69, X_48_72, X_48_73, X_48_74, X_48_75, X_48_78, X_48_81, X_48_84, X_48_86, S_isText_t, pushR_some, r1_0_1, Int.toNat_natCast, hR.1, S_isMissing_t, S_found]
    · rw [C_136]
      simp (disch := omega) only [X_136_0, X_136_1, X_136_4_t, X_136_4_f, X_136_4, X_136_7, X_136_8, X_136_9, X_136_10, X_136_13, X_136_14, X_136_15_t, X_136_15_f, X_136_15, X_136_18, X_136_19, X_136_20, X_136_23, X_136_24, X_136_25, X_136_26, X_136_29, X_136_31_t, X_136_31_f, X_136_31, X_136_34, X_136_36, X_136_37, X_136_38, X_136_40, X_136_42_t, X_136_42_f, X_136_42, X_136_45, X_136_46, X_136_49, X_136_50, X_136_51, X_136_54, X_136_55, X_136_56, X_136_57, X_136_60, X_136_63, X_136_64, X_136_67, X_136_69, X_136_70, X_136_71, X_136_72, X_136_75, X_136_78, X_136_79, X_136_80, X_136_83, X_136_84, X_136_86, X_136_87_t, X_136_87_f, X_136_87, X_136_90, X_136_91, X_136_94, X_136_95, X_136_96, X_136_97, X_136_100, X_136_103, X_136_105, S3_isText_t, pushR_some, r1_63_6, r1_63_7, Int.toNat_natCast, S3_finds, fnd_o]
  obtain ⟨L, hLe⟩ := nat_of (x := h 70 r) (by omega)
  have hb := ffF_bd (g := fun k => h 69 (60 * r + k)) (L := L) (m := L) (b := 0) (i := 0)
  have cF : ∀ Q, call 29 95 [.inr (.inr (some (34 + 2 * r)))] G1 h Q = Q (some (.inl (ffF (fun k => h 69 (60 * r + k)) L L 0 0))) G1 h := fun Q => S_firstFault (by omega) hw (by omega) (by omega) (fun k hk => by rw [q35]; exact R5 k (by omega))
  by_cases hf : ffF (fun k => h 69 (60 * r + k)) L L 0 0 = -9
  case neg =>
    have cM : ∀ Q, call 29 134 [.inr (.inr (some 63)), .inl (r : Int)] G1 h Q = _ := fun Q => S3_faultOf (by omega) hr6 hLe (by omega) (fun k hk => (R5 k (by omega)).2)
    generalize ffF (fun k => h 69 (60 * r + k)) L L 0 0 = F at hb cF cM hf
    generalize tlF (fun k => h 69 (60 * r + k)) L L 0 0 (h 73) = T at cM
    refine ⟨-4, h, setR h 73 T, by omega, fun Q => ?_, fun Q => ?_, INV_same (INV_scr H (fun a ha => setR_n (fun z => ha (by unfold scr; omega))) (fun s hs => by rw [setR_n (by omega)]; exact H.2.1 s hs))⟩
    · rw [C_48]
      simp (disch := omega) only [X_48_0, X_48_1, X_48_4_t, X_48_4_f, X_48_4, X_48_7, X_48_8, X_48_9, X_48_10, X_48_13, X_48_14, X_48_15, X_48_18_t, X_48_18_f, X_48_18, X_48_21, X_48_22, X_48_23, X_48_26, X_48_27, X_48_28, X_48_31, X_48_32, X_48_33, X_48_36, X_48_38_t, X_48_38_f, X_48_38, X_48_41, X_48_43, X_48_44, X_48_45, X_48_48, X_48_51, X_48_52, X_48_53, X_48_56, X_48_57, X_48_58, X_48_61, X_48_62, X_48_64, X_48_65_t, X_48_65_f, X_48_65, X_48_68, X_48_69, X_48_72, X_48_73, X_48_74, X_48_75, X_48_78, X_48_81, X_48_84, X_48_86, S_isText_t, pushR_some, r1_0_1, Int.toNat_natCast, hR.1, S_isMissing_f, cF]
    · rw [C_136]
      simp (disch := omega) only [X_136_0, X_136_1, X_136_4_t, X_136_4_f, X_136_4, X_136_7, X_136_8, X_136_9, X_136_10, X_136_13, X_136_14, X_136_15_t, X_136_15_f, X_136_15, X_136_18, X_136_19, X_136_20, X_136_23, X_136_24, X_136_25, X_136_26, X_136_29, X_136_31_t, X_136_31_f, X_136_31, X_136_34, X_136_36, X_136_37, X_136_38, X_136_40, X_136_42_t, X_136_42_f, X_136_42, X_136_45, X_136_46, X_136_49, X_136_50, X_136_51, X_136_54, X_136_55, X_136_56, X_136_57, X_136_60, X_136_63, X_136_64, X_136_67, X_136_69, X_136_70, X_136_71, X_136_72, X_136_75, X_136_78, X_136_79, X_136_80, X_136_83, X_136_84, X_136_86, X_136_87_t, X_136_87_f, X_136_87, X_136_90, X_136_91, X_136_94, X_136_95, X_136_96, X_136_97, X_136_100, X_136_103, X_136_105, S3_isText_t, pushR_some, r1_63_6, r1_63_7, Int.toNat_natCast, cM]
  obtain ⟨hb1, cB, TB, B1, B2, B3, B4⟩ := S_begin (d := 29) (t := 3) (h := h) (f := fun s => if s < 14 then h 4 s else h 5 (s - 14)) (by omega) t3 (fun i hi => by rw [if_pos hi]) (fun i hi => by rw [if_neg (by omega), show 14 + i - 14 = i by omega])
  obtain ⟨hb2, cR, B5, B6⟩ := L_readBeads (d := 28) (q := 34 + 2 * r) (L := L) (g := fun k => h 69 (60 * r + k)) (by omega) hw (by omega) (fun k hk => (R5 k (by omega)).2) L 0 0 (h 73) hb1 (by rw [B1 _ (by omega)]; omega) (fun k hk => by rw [B1 _ (by omega), q35]; exact (R5 k (by omega)).1) (by omega) (by omega) hf (fun k hk => by omega)
  have cR2 : ∀ Q, call 29 96 [.inr (.inr (some 0)), .inr (.inr (some (34 + 2 * r)))] G1 hb1 Q = Q none G1 hb2 := fun Q => by
    rw [C_96]
    simp (disch := omega) only [X_96_0, X_96_1, X_96_2, X_96_3, X_96_5, X_96_6, X_96_7, X_96_8, X_96_11_t, X_96_11_f, X_96_11, X_96_14, X_96_15, X_96_17_t, X_96_17_f, X_96_17, X_96_20, X_96_21, X_96_22, X_96_25, X_96_27_t, X_96_27_f, X_96_27, X_96_30, X_96_31, X_96_34, X_96_35, X_96_36, X_96_37, X_96_40, X_96_43, X_96_46, X_96_47, X_96_50, X_96_51, X_96_52, X_96_53, X_96_54, X_96_55, X_96_58, X_96_60, X_96_61, X_96_64, X_96_67, X_96_70, X_96_73, X_96_76, fixp_i, fixp_r]
    exact cR Q
  generalize e3 : put (put (put hb2 42 8 0) 49 8 0) 56 8 0 = h3
  have w3 : ∀ a, ¬ a = 42 → ¬ a = 49 → ¬ a = 56 → h3 a = hb2 a := fun a z1 z2 z3 => by rw [← e3, put_row z3, put_row z2, put_row z1]
  have w4 : ∀ a, ¬ (3 ≤ a ∧ a < 10) → ¬ a = 42 → ¬ a = 49 → ¬ a = 56 → h3 a = h a := fun a z0 z1 z2 z3 => by rw [w3 a z1 z2 z3, B5 a (by omega) (by omega), B1 a (by omega)]
  have w70 : h3 70 r = (L : Int) := by rw [w4 70 (by omega) (by omega) (by omega) (by omega), hLe]
  have w69 : h3 69 = h 69 := w4 69 (by omega) (by omega) (by omega) (by omega)
  have w73 : h3 73 = h 73 := w4 73 (by omega) (by omega) (by omega) (by omega)
  have w64 : h3 64 = h 64 := w4 64 (by omega) (by omega) (by omega) (by omega)
  have cM : ∀ Q, call 29 134 [.inr (.inr (some 63)), .inl (r : Int)] G1 h3 Q = _ := fun Q => S3_faultOf (by omega) hr6 w70 (by omega) (fun k hk => by rw [w69]; exact (R5 k (by omega)).2)
  rw [w69, w73, hf] at cM
  rw [hf] at cF
  generalize tlF (fun k => h 69 (60 * r + k)) L L 0 0 (h 73) = T at cM B6
  generalize e4 : setR h3 73 T = h4 at cM
  generalize e5 : setR h4 64 (mixR 28 (h4 73) (h4 64)) = h5
  generalize e6 : put h5 64 28 0 = h6
  generalize e7 : setR h6 64 (bgF (h6 64)) = h7
  generalize e8 : put (put (put (put h7 63 1 1) 66 0 0) 66 1 0) 66 2 0 = h8
  have r42 : rfs G1 17 0 = some 42 := by decide
  have r49 : rfs G1 17 1 = some 49 := by decide
  have r56 : rfs G1 17 2 = some 56 := by decide
  have y64 : h7 64 = bgF (putR (mixR 28 T (h 64)) 28 0) := by
    rw [← e7, setR_s, ← e6, put_set, setR_s, ← e5, setR_s, ← e4, setR_s, setR_n (by omega), w64]
  have y64b : h8 64 = bgF (putR (mixR 28 T (h 64)) 28 0) := by rw [← e8, put_row (by omega), put_row (by omega), put_row (by omega), put_row (by omega), y64]
  have yo : ∀ a, ¬ a = 73 → ¬ a = 64 → ¬ a = 63 → ¬ a = 66 → h8 a = h3 a := fun a z1 z2 z3 z4 => by rw [← e8, put_row z4, put_row z4, put_row z4, put_row z3, ← e7, setR_n z2, ← e6, put_row z2, ← e5, setR_n z2, ← e4, setR_n z1]
  have y631 : h8 63 1 = 1 := by rw [← e8, put_row (by omega), put_row (by omega), put_row (by omega), put_s]
  have y66 : ∀ k, k < 3 → h8 66 k = 0 := fun k hk => by
    have : k = 0 ∨ k = 1 ∨ k = 2 := by omega
    rcases this with rfl | rfl | rfl
    · rw [← e8, put_nk (by omega), put_nk (by omega), put_s]
    · rw [← e8, put_nk (by omega), put_s]
    · rw [← e8, put_s]
  have f1 : ∀ s, s < 28 → h8 64 s = T s := fun s hs => by rw [y64b, bgF_n (by omega), putR_n (by omega), mix_lt hs]
  have f28 : h8 64 28 = 0 := by rw [y64b, bgF_n (by omega), putR_s]
  have v3 : h8 3 = hb1 3 := by rw [yo 3 (by omega) (by omega) (by omega) (by omega), w3 3 (by omega) (by omega) (by omega), B5 3 (by omega) (by omega)]
  have vo : ∀ a, 6 ≤ a ∧ a < 9 → h8 a = hb1 a := fun a ha => by rw [yo a (by omega) (by omega) (by omega) (by omega), w3 a (by omega) (by omega) (by omega), B5 a (by omega) (by omega)]
  have v4 : ∀ a, 4 ≤ a ∧ a < 6 → h8 a = hb2 a := fun a ha => by rw [yo a (by omega) (by omega) (by omega) (by omega), w3 a (by omega) (by omega) (by omega)]
  have hFUL : FUL h8 3 (h8 64) := by
    refine ⟨⟨fun i hi => ?_, fun i hi => ?_, fun c hc => ?_, fun i hi => ?_, ?_, fun c hc => ?_⟩, ?_, ⟨?_, by omega, by omega, fun k hk => by omega⟩, ?_⟩
    · rw [v4 4 (by omega), f1 i (by omega)]; exact (B6 i hi).1.1
    · rw [v4 5 (by omega), f1 (14 + i) (by omega)]; exact (B6 i hi).2.1
    · rw [vo 8 (by omega), y64b, bgF_lie hc, TB.2.2.1 c hc, bgF_lie hc]
    · rw [vo 7 (by omega), y64b, bgF_brn (by omega), TB.2.2.2.1 i hi, bgF_brn (by omega)]
    · rw [v3, y64b, bgF_brn (by omega), TB.2.2.2.2.1, bgF_brn (by omega)]
    · have z := TB.2.2.2.2.2 c hc
      rw [bgF_lie hc] at z
      rw [vo 6 (by omega), y64b, bgF_lie hc]
      exact z
    · rw [f28]
      rw [y64b]
      refine bgF_ty (fun i hi => ?_) (fun i hi => ?_)
      · rw [putR_n (by omega), mix_lt (by omega)]; exact (B6 i hi).1.2
      · rw [putR_n (by omega), mix_lt (by omega)]; exact (B6 i hi).2.2
    · rw [v3, f28, B2]
    · unfold HI
      rw [f28]
      show bgF (h8 64) = h8 64
      rw [y64b, bg_bg]
  refine ⟨14, h3, h8, by omega, fun Q => ?_, fun Q => ?_, INV_same (INV_toy H (fun a a1 a2 a3 => ?_) (fun k hk => ?_) (fun s hs => ?_) ⟨?_, ?_, Or.inr ⟨y631, hFUL⟩, fun s hs => ?_⟩ (fun k hk => ⟨?_, Or.inl (y66 k hk)⟩))⟩
  · rw [C_48]
    simp (disch := omega) only [X_48_0, X_48_1, X_48_4_t, X_48_4_f, X_48_4, X_48_7, X_48_8, X_48_9, X_48_10, X_48_13, X_48_14, X_48_15, X_48_18_t, X_48_18_f, X_48_18, X_48_21, X_48_22, X_48_23, X_48_26, X_48_27, X_48_28, X_48_31, X_48_32, X_48_33, X_48_36, X_48_38_t, X_48_38_f, X_48_38, X_48_41, X_48_43, X_48_44, X_48_45, X_48_48, X_48_51, X_48_52, X_48_53, X_48_56, X_48_57, X_48_58, X_48_61, X_48_62, X_48_63, X_48_64, X_48_65_t, X_48_65_f, X_48_65, X_48_68, X_48_69, X_48_72, X_48_73, X_48_74, X_48_75, X_48_78, X_48_81, X_48_84, X_48_86, S_isText_t, pushR_some, pushR_none, r1_0_1, r1_0_2, r1_0_4, Int.toNat_natCast, hR.1, S_isMissing_f, cF, cB, cR2, fixp_i, Int.reduceToNat, Int.reduceAdd, r42, r49, r56, e3]
  · have q := L3_toy1 (d := 29) (r := r) (h := h4) (Q := Q) 28 0 rfl
    rw [mix_0, setR_e, e5] at q
    have w70b : h3 70 r = h 70 r := by omega
    have cG : ∀ Q, call 29 137 [.inr (.inr (some 64))] G1 h6 Q = Q none G1 h7 := fun Q => by rw [S3_begin (by omega) (Or.inl rfl), e7]
    rw [C_136]
    simp (disch := omega) only [X_136_0, X_136_1, X_136_4_t, X_136_4_f, X_136_4, X_136_7, X_136_8, X_136_9, X_136_10, X_136_13, X_136_14, X_136_15_t, X_136_15_f, X_136_15, X_136_18, X_136_19, X_136_20, X_136_23, X_136_24, X_136_25, X_136_26, X_136_29, X_136_31_t, X_136_31_f, X_136_31, X_136_34, X_136_36, X_136_37, X_136_38, X_136_40, X_136_42_t, X_136_42_f, X_136_42, X_136_45, X_136_46, X_136_49, X_136_50, X_136_51, X_136_54, X_136_55, X_136_56, X_136_57, X_136_60, X_136_63, X_136_64, X_136_67, X_136_69, X_136_70, X_136_71, X_136_72, X_136_75, X_136_78, X_136_79, X_136_80, X_136_83, X_136_84, X_136_86, X_136_87_t, X_136_87_f, X_136_87, X_136_90, X_136_91, X_136_94, X_136_95, X_136_96, X_136_97, X_136_100, X_136_103, X_136_105, S3_isText_t, pushR_some, r1_63_6, r1_63_7, Int.toNat_natCast, cM, fixp_i]
    refine Eq.trans q ?_
    simp (disch := omega) only [X_136_0, X_136_1, X_136_4_t, X_136_4_f, X_136_4, X_136_7, X_136_8, X_136_9, X_136_10, X_136_13, X_136_14, X_136_15_t, X_136_15_f, X_136_15, X_136_18, X_136_19, X_136_20, X_136_23, X_136_24, X_136_25, X_136_26, X_136_29, X_136_31_t, X_136_31_f, X_136_31, X_136_34, X_136_36, X_136_37, X_136_38, X_136_39, X_136_40, X_136_42_t, X_136_42_f, X_136_42, X_136_45, X_136_46, X_136_49, X_136_50, X_136_51, X_136_54, X_136_55, X_136_56, X_136_57, X_136_60, X_136_63, X_136_64, X_136_67, X_136_69, X_136_70, X_136_71, X_136_72, X_136_75, X_136_78, X_136_79, X_136_80, X_136_83, X_136_84, X_136_85, X_136_86, X_136_87_t, X_136_87_f, X_136_87, X_136_90, X_136_91, X_136_94, X_136_95, X_136_96, X_136_97, X_136_100, X_136_103, X_136_105, pushR_none, r1_63_0, r1_63_3, fixp_i, Int.reduceToNat, Int.reduceAdd, e6, cG, e8]
  · rw [yo a (fun z => a1 (by unfold scr; omega)) (by omega) (by omega) (by omega), w4 a a2 (by omega) (by omega) (by omega)]
  · rw [← e8, put_row (by omega), put_row (by omega), put_row (by omega), put_nk hk, ← e7, setR_n (by omega), ← e6, put_row (by omega), ← e5, setR_n (by omega), ← e4, setR_n (by omega), w4 63 (by omega) (by omega) (by omega) (by omega)]
  · rw [yo 74 (by omega) (by omega) (by omega) (by omega), w4 74 (by omega) (by omega) (by omega) (by omega)]
    exact H.2.1 s hs
  · rw [v3, y631, B3]
  · rw [v3, f28, B2]
  · rw [y64b, bgF_n (by omega), putR_n (by omega), mix_ge (by omega)]
    exact H.2.2.2.2.1.2.2.2 s hs
  · rw [y66 k hk, yo _ (by omega) (by omega) (by omega) (by omega)]
    have : k = 0 ∨ k = 1 ∨ k = 2 := by omega
    rcases this with rfl | rfl | rfl
    · rw [← e3, put_row (by omega), put_row (by omega)]; exact put_s
    · rw [← e3, put_row (by omega)]; exact put_s
    · rw [← e3]; exact put_s
