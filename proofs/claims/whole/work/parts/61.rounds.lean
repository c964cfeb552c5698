/-! 61: rounds of moves -/
def lzF (f f0 : TF) : Bool := allF (fun c => decide (f (69 + c) = f0 (69 + c))) 14 0
def rdF (g f0 : TF) (L : Nat) : Nat → Nat → TF → Int
  | 0, _, _ => -9
  | m + 1, n, f => if rnK g L 0 f < L then -9 else if lzF (rnT g L 0 f) f0 = true then (n : Int) else rdF g f0 L m (n + 1) (rnT g L 0 f)
theorem L_rounds {e r L : Nat} {g f0 : TF} {s : Int} (he : 4 ≤ e) (hr : r < 6) (hL : L ≤ 40) (hg : ∀ k, k < L → 0 ≤ g k ∧ g k < 4) (hf0 : lieOk f0) : ∀ (m n : Nat) (f : TF) (N : Int) (h : AH), n + m = 201 → h (22 + 2 * r) 2 = (L : Int) → (∀ k, k < L → h (23 + 2 * r) k = g k) → h 1000 = rgT → TR h 3 f0 → TR h 10 f → tyOk f N → ∃ h', (∀ Q, wp (e + 1) 59 55 [some (.inr (.inr (some 0))), some (.inl (r : Int)), some (.inl s), some (.inl (n : Int))] [] G1 h Q = Q (some (.inl (rdF g f0 L m n f))) G1 h') ∧ (∀ a, (a < 10 ∨ 17 ≤ a) → h' a = h a) := by
  have g0 := g1_0
  have g1 := g1_1
  have hR := rows_r hr
  have hw := hR.2
  have hs := rw_s hw
  have t3 : isToy 3 := Or.inl rfl
  have t10 : isToy 10 := Or.inr (Or.inl rfl)
  have s10 := toy_s t10
  intro m
  induction m with
  | zero =>
    intro n f N h hn e1 e2 eR T3 T10 hf
    obtain rfl : n = 201 := by omega
    refine ⟨h, fun Q => ?_, fun _ _ => rfl⟩
    simp (disch := omega) only [X_59_55, X_59_0, X_59_1, X_59_4, X_59_7_t, X_59_7_f, X_59_7, X_59_10, X_59_12, X_59_13, X_59_14, X_59_17_t, X_59_17_f, X_59_17, X_59_20, X_59_21, X_59_22, X_59_23, X_59_24, X_59_27, X_59_28, X_59_29, X_59_30, X_59_32, X_59_35, X_59_36, X_59_37_t, X_59_37_f, X_59_37, X_59_40, X_59_41, X_59_42, X_59_43, X_59_46, X_59_47, X_59_50, X_59_53, X_59_54, X_59_56, X_59_59_t, X_59_59_f, X_59_59, X_59_62, X_59_63, X_59_64, X_59_67, X_59_68, X_59_69, X_59_72, X_59_73, X_59_76, X_59_77, X_59_78, X_59_81_t, X_59_81_f, X_59_81, X_59_84, X_59_86, X_59_87, X_59_88, X_59_91, X_59_92, X_59_95, X_59_98_t, X_59_98_f, X_59_98, X_59_101, X_59_102, X_59_103, X_59_106, X_59_109, X_59_111]
    rfl
  | succ m ih =>
    intro n f N h hn e1 e2 eR T3 T10 hf
    obtain ⟨hb, cM, TM, FM, FM2⟩ := L_mma (d := e) (r := r) (L := L) (g := g) he hr hL hg L 0 f N h (by omega) e1 e2 eR T10 hf
    have cM2 : ∀ Q, call (e + 1) 106 [.inr (.inr (some 0)), .inr (.inr (some (22 + 2 * r)))] G1 h Q = Q (some (.inl (rnK g L 0 f : Int))) G1 hb := fun Q => by
      rw [C_106]
      simp (disch := omega) only [X_106_0, X_106_1, X_106_3, X_106_4, X_106_7_t, X_106_7_f, X_106_7, X_106_10, X_106_11, X_106_14, X_106_15, X_106_16, X_106_19, X_106_22_t, X_106_22_f, X_106_22, X_106_25, X_106_26, X_106_27, X_106_28, X_106_31, X_106_32, X_106_33, X_106_36, X_106_39, X_106_42, X_106_45, X_106_46, X_106_49, fixp_r]
      exact cM Q
    have kle := rnK_le (g := g) (m := L) (i := 0) (f := f)
    have ty := rnT_ty (g := g) (m := L) (i := 0) (f := f) (N := N) (fun k k1 k2 => hg k (by omega)) hf
    have b2 : hb (22 + 2 * r) 2 = (L : Int) := by rw [FM _ (by omega), e1]
    have T3b : TR hb 3 f0 := TR_keep T3 (FM _ (by omega)) (FM _ (by omega)) (FM _ (by omega)) (FM _ (by omega)) (FM _ (by omega)) (by rw [FM _ (by omega)])
    by_cases z1 : rnK g L 0 f < L
    · refine ⟨hb, fun Q => ?_, fun a ha => FM a (by omega)⟩
      unfold rdF
      rw [if_pos z1, X_59_55]
      simp (disch := omega) only [X_59_0, X_59_1, X_59_4, X_59_7_t, X_59_7_f, X_59_7, X_59_10, X_59_12, X_59_13, X_59_14, X_59_17_t, X_59_17_f, X_59_17, X_59_20, X_59_21, X_59_22, X_59_23, X_59_24, X_59_27, X_59_28, X_59_29, X_59_30, X_59_32, X_59_35, X_59_36, X_59_37_t, X_59_37_f, X_59_37, X_59_40, X_59_41, X_59_42, X_59_43, X_59_46, X_59_47, X_59_50, X_59_53, X_59_54, X_59_56, X_59_59_t, X_59_59_f, X_59_59, X_59_62, X_59_63, X_59_64, X_59_67, X_59_68, X_59_69, X_59_72, X_59_73, X_59_76, X_59_77, X_59_78, X_59_81_t, X_59_81_f, X_59_81, X_59_84, X_59_86, X_59_87, X_59_88, X_59_91, X_59_92, X_59_95, X_59_98_t, X_59_98_f, X_59_98, X_59_101, X_59_102, X_59_103, X_59_106, X_59_109, X_59_111, r1_0_0, Int.toNat_natCast, hR.1, cM2, b2, pushR_some]
    · have eLz : allF (fun c => decide (hb (10 + 5) c = hb (3 + 5) c)) 14 0 = lzF (rnT g L 0 f) f0 := allF_congr (fun c c1 c2 => by rw [TM.2.2.1 c (by omega), T3b.2.2.1 c (by omega)])
      have cL : ∀ Q, call (e + 1) 21 [.inr (.inr (some 10)), .inr (.inr (some 3))] G1 hb Q = if lzF (rnT g L 0 f) f0 = true then Q (some (.inl 1)) G1 hb else Q (some (.inl 0)) G1 hb := fun Q => by
        rw [S_liesAs (by omega) t10 t3 (fun c hc => by rw [TM.2.2.1 c hc, T3b.2.2.1 c hc]; exact ⟨ty.1.1 c hc, hf0.1 c hc⟩), eLz]
      by_cases z2 : lzF (rnT g L 0 f) f0 = true
      · refine ⟨hb, fun Q => ?_, fun a ha => FM a (by omega)⟩
        unfold rdF
        rw [if_neg z1, if_pos z2, X_59_55]
        simp (disch := omega) only [X_59_0, X_59_1, X_59_4, X_59_7_t, X_59_7_f, X_59_7, X_59_10, X_59_12, X_59_13, X_59_14, X_59_17_t, X_59_17_f, X_59_17, X_59_20, X_59_21, X_59_22, X_59_23, X_59_24, X_59_27, X_59_28, X_59_29, X_59_30, X_59_32, X_59_35, X_59_36, X_59_37_t, X_59_37_f, X_59_37, X_59_40, X_59_41, X_59_42, X_59_43, X_59_46, X_59_47, X_59_50, X_59_53, X_59_54, X_59_56, X_59_59_t, X_59_59_f, X_59_59, X_59_62, X_59_63, X_59_64, X_59_67, X_59_68, X_59_69, X_59_72, X_59_73, X_59_76, X_59_77, X_59_78, X_59_81_t, X_59_81_f, X_59_81, X_59_84, X_59_86, X_59_87, X_59_88, X_59_91, X_59_92, X_59_95, X_59_98_t, X_59_98_f, X_59_98, X_59_101, X_59_102, X_59_103, X_59_106, X_59_109, X_59_111, r1_0_0, r1_0_2, r1_0_3, Int.toNat_natCast, hR.1, cM2, b2, cL, if_pos z2, pushR_some]
      · obtain ⟨h', c2, F2⟩ := ih (n + 1) (rnT g L 0 f) (N + (L : Int)) hb (by omega) b2 (fun k hk => by rw [FM _ (by omega), e2 k hk]) (by rw [FM _ (by omega), eR]) T3b TM ty
        refine ⟨h', fun Q => ?_, fun a ha => by rw [F2 a ha, FM a (by omega)]⟩
        unfold rdF
        rw [if_neg z1, if_neg z2]
        refine Eq.trans ?_ (c2 Q)
        conv => lhs; rw [X_59_55]
        conv => lhs; simp (disch := omega) only [X_59_0, X_59_1, X_59_4, X_59_7_t, X_59_7_f, X_59_7, X_59_10, X_59_12, X_59_13, X_59_14, X_59_17_t, X_59_17_f, X_59_17, X_59_20, X_59_21, X_59_22, X_59_23, X_59_24, X_59_27, X_59_28, X_59_29, X_59_30, X_59_32, X_59_35, X_59_36, X_59_37_t, X_59_37_f, X_59_37, X_59_40, X_59_41, X_59_42, X_59_43, X_59_46, X_59_47, X_59_50, X_59_53, X_59_54, X_59_56, X_59_59_t, X_59_59_f, X_59_59, X_59_62, X_59_63, X_59_64, X_59_67, X_59_68, X_59_69, X_59_72, X_59_73, X_59_76, X_59_77, X_59_78, X_59_81_t, X_59_81_f, X_59_81, X_59_84, X_59_86, X_59_87, X_59_88, X_59_91, X_59_92, X_59_95, X_59_98_t, X_59_98_f, X_59_98, X_59_101, X_59_102, X_59_103, X_59_106, X_59_109, X_59_111, r1_0_0, r1_0_2, r1_0_3, Int.toNat_natCast, hR.1, cM2, b2, cL, if_neg z2, pushR_some, fixp_i, natS]
