/-! 59: run -/
theorem C_run2 {d t : Nat} {r s k N : Int} {f : TF} {h : AH} {Q : Option AV → AG → AH → Prop} (hd : 4 ≤ d) (ht : t < 6) (h2 : h (22 + 2 * t) 2 = 14) (hT : TR h 10 f) (hf : tyOk f N) (hN : N ≤ 900000) : ∀ (n i : Nat), i + n = 14 → wp d 58 86 [some (.inr (.inr (some 0))), some (.inl r), some (.inl (t : Int)), some (.inl s), some (.inl k), some (.inl (i : Int))] [] G1 (setR h (23 + 2 * t) (mixR i (shF f) (h (23 + 2 * t)))) Q = Q (some (.inl k)) G1 (setR h (23 + 2 * t) (mixR 14 (shF f) (h (23 + 2 * t)))) := by
  have g0 := g1_0
  have g1 := g1_1
  have hR := rows_r ht
  have hw := hR.2
  have hs := rw_s hw
  have hL := rwL_r ht
  have t10 : isToy 10 := Or.inr (Or.inl rfl)
  have s10 := toy_s t10
  intro n
  induction n with
  | zero =>
    intro i hi
    obtain rfl : i = 14 := by omega
    simp (disch := omega) only [X_58_86, X_58_0, X_58_1, X_58_4, X_58_7_t, X_58_7_f, X_58_7, X_58_10, X_58_12, X_58_13, X_58_14, X_58_17_t, X_58_17_f, X_58_17, X_58_20, X_58_21, X_58_24_t, X_58_24_f, X_58_24, X_58_27, X_58_28, X_58_29, X_58_30, X_58_31, X_58_34, X_58_35, X_58_36, X_58_37, X_58_39, X_58_42, X_58_43, X_58_44_t, X_58_44_f, X_58_44, X_58_47, X_58_48, X_58_49, X_58_50, X_58_53, X_58_54, X_58_57, X_58_60, X_58_61, X_58_62, X_58_65, X_58_66, X_58_67, X_58_70, X_58_72, X_58_73, X_58_76, X_58_77, X_58_78, X_58_80, X_58_83, X_58_84, X_58_88, X_58_90_t, X_58_90_f, X_58_90, X_58_93, X_58_94, X_58_97, X_58_98, X_58_99, X_58_101, X_58_102, X_58_105, X_58_107, X_58_110, X_58_113, X_58_116, X_58_119, X_58_121]
  | succ n ih =>
    intro i hi
    rw [← ih (i + 1) (by omega), ← mix_put (f := shF f)]
    have w2 : setR h (23 + 2 * t) (mixR i (shF f) (h (23 + 2 * t))) (22 + 2 * t) 2 = 14 := by rw [setR_n (by omega), h2]
    have T2 : TR (setR h (23 + 2 * t) (mixR i (shF f) (h (23 + 2 * t)))) 10 f := TR_keep hT (setR_n (by omega)) (setR_n (by omega)) (setR_n (by omega)) (setR_n (by omega)) (setR_n (by omega)) (by rw [setR_n (by omega)])
    have e3 : put (setR h (23 + 2 * t) (mixR i (shF f) (h (23 + 2 * t)))) (23 + 2 * t) i (shF f i) = setR h (23 + 2 * t) (putR (mixR i (shF f) (h (23 + 2 * t))) i (shF f i)) := by rw [put_set, setR_s, setR_2]
    rw [← e3]
    generalize setR h (23 + 2 * t) (mixR i (shF f) (h (23 + 2 * t))) = h1 at w2 T2 ⊢
    have cS : ∀ Q, call d 19 [.inr (.inr (some 10)), .inl (i : Int)] G1 h1 Q = Q (some (.inl (shF f i))) G1 h1 := fun Q => S_showIn hd t10 (by omega) T2 hf hN
    conv => lhs; rw [X_58_86]
    conv => lhs; simp (disch := omega) only [X_58_0, X_58_1, X_58_4, X_58_7_t, X_58_7_f, X_58_7, X_58_10, X_58_12, X_58_13, X_58_14, X_58_17_t, X_58_17_f, X_58_17, X_58_20, X_58_21, X_58_24_t, X_58_24_f, X_58_24, X_58_27, X_58_28, X_58_29, X_58_30, X_58_31, X_58_34, X_58_35, X_58_36, X_58_37, X_58_39, X_58_42, X_58_43, X_58_44_t, X_58_44_f, X_58_44, X_58_47, X_58_48, X_58_49, X_58_50, X_58_53, X_58_54, X_58_57, X_58_60, X_58_61, X_58_62, X_58_65, X_58_66, X_58_67, X_58_70, X_58_72, X_58_73, X_58_76, X_58_77, X_58_78, X_58_80, X_58_83, X_58_84, X_58_88, X_58_90_t, X_58_90_f, X_58_90, X_58_93, X_58_94, X_58_97, X_58_98, X_58_99, X_58_101, X_58_102, X_58_105, X_58_107, X_58_110, X_58_113, X_58_116, X_58_119, X_58_121, r1_0_0, r1_0_3, Int.toNat_natCast, hR.1, cS, S_set, q23, pushR_some, pushR_none, fixp_i, natS]
