/-! 62: rounds on both sides -/
theorem M_rd1 {d r L : Nat} {s nn : Int} {h : AH} (hd : 3 ≤ d) (hr : r < 6) (hL : L ≤ 40) (h68 : h 68 r = (L : Int)) (hg : ∀ k, k < L → 0 ≤ h 67 (40 * r + k) ∧ h 67 (40 * r + k) < 4) : ∀ (m i : Nat) (f : TF) (N : Int), i + m = L → tyOk f N → ∀ Q, wp d 169 51 [some (.inr (.inr (some 63))), some (.inl (r : Int)), some (.inl s), some (.inl nn), some (.inl (i : Int))] [] G1 (setR h 74 f) Q = if rnK (fun k => h 67 (40 * r + k)) m i f < L then Q (some (.inl (-9))) G1 (setR h 74 (rnT (fun k => h 67 (40 * r + k)) m i f)) else wp d 169 112 [some (.inr (.inr (some 63))), some (.inl (r : Int)), some (.inl s), some (.inl nn), some (.inl (L : Int))] [] G1 (setR h 74 (rnT (fun k => h 67 (40 * r + k)) m i f)) Q := by
  have g0 := g1_63
  have g67 := g1_67
  have g68 := g1_68
  intro m
  induction m with
  | zero =>
    intro i f N hi hf Q
    obtain rfl : i = L := by omega
    have e1 : rnK (fun k => h 67 (40 * r + k)) 0 i f = i := rfl
    have e2 : rnT (fun k => h 67 (40 * r + k)) 0 i f = f := rfl
    rw [e1, e2, if_neg (by omega)]
    conv => lhs; rw [X_169_51]
    simp (disch := omega) only [X_169_0, X_169_1, X_169_4_t, X_169_4_f, X_169_4, X_169_7, X_169_9, X_169_10, X_169_11, X_169_14_t, X_169_14_f, X_169_14, X_169_17, X_169_18, X_169_19, X_169_20, X_169_21, X_169_22, X_169_24, X_169_27, X_169_28, X_169_29, X_169_30_t, X_169_30_f, X_169_30, X_169_33, X_169_34, X_169_35, X_169_36, X_169_39, X_169_40, X_169_42, X_169_45_t, X_169_45_f, X_169_45, X_169_48, X_169_49, X_169_53, X_169_54, X_169_57, X_169_58, X_169_59_t, X_169_59_f, X_169_59, X_169_62, X_169_63, X_169_66, X_169_67, X_169_70, X_169_72, X_169_73, X_169_74, X_169_76, X_169_77, X_169_78, X_169_81_t, X_169_81_f, X_169_81, X_169_84, X_169_86, X_169_87, X_169_88, X_169_91, X_169_92, X_169_95, X_169_97, X_169_98, X_169_99, X_169_101, X_169_102, X_169_103, X_169_106, X_169_109, X_169_112, X_169_113, X_169_116_t, X_169_116_f, X_169_116, X_169_119, X_169_120, X_169_121, X_169_124, X_169_127, X_169_129, r1_63_5, setR_n, Int.toNat_natCast, h68, fixp_i]
  | succ m ih =>
    intro i f N hi hf Q
    have gi := hg i (by omega)
    have cB : ∀ Q, call d 146 [.inr (.inr (some 74)), .inl (h 67 (40 * r + i))] G1 (setR h 74 f) Q = if barM f (h 67 (40 * r + i)) then Q (some (.inl 1)) G1 (setR h 74 f) else Q (some (.inl 0)) G1 (setR h 74 f) := fun Q => by
      rw [S3_isBarred (by omega) (Or.inr rfl) gi (by rw [setR_s]; exact hf.1) (by rw [setR_s]; exact hf.2.2.1), setR_s]
    by_cases hb : barM f (h 67 (40 * r + i))
    · have e1 : rnK (fun k => h 67 (40 * r + k)) (m + 1) i f = i := by unfold rnK; rw [if_pos hb]
      have e2 : rnT (fun k => h 67 (40 * r + k)) (m + 1) i f = f := by unfold rnT; rw [if_pos hb]
      rw [e1, e2, if_pos (by omega)]
      conv => lhs; rw [X_169_51]
      conv => lhs; simp (disch := omega) only [X_169_0, X_169_1, X_169_4_t, X_169_4_f, X_169_4, X_169_7, X_169_9, X_169_10, X_169_11, X_169_14_t, X_169_14_f, X_169_14, X_169_17, X_169_18, X_169_19, X_169_20, X_169_21, X_169_22, X_169_24, X_169_27, X_169_28, X_169_29, X_169_30_t, X_169_30_f, X_169_30, X_169_33, X_169_34, X_169_35, X_169_36, X_169_39, X_169_40, X_169_42, X_169_45_t, X_169_45_f, X_169_45, X_169_48, X_169_49, X_169_53, X_169_54, X_169_57, X_169_58, X_169_59_t, X_169_59_f, X_169_59, X_169_62, X_169_63, X_169_66, X_169_67, X_169_70, X_169_72, X_169_73, X_169_74, X_169_76, X_169_77, X_169_78, X_169_81_t, X_169_81_f, X_169_81, X_169_84, X_169_86, X_169_87, X_169_88, X_169_91, X_169_92, X_169_95, X_169_97, X_169_98, X_169_99, X_169_101, X_169_102, X_169_103, X_169_106, X_169_109, X_169_112, X_169_113, X_169_116_t, X_169_116_f, X_169_116, X_169_119, X_169_120, X_169_121, X_169_124, X_169_127, X_169_129, r1_63_4, r1_63_5, r1_63_15, setR_n, tn40, Int.toNat_natCast, h68, cB, if_pos hb, pushR_some, fixp_i]
    · have e1 : rnK (fun k => h 67 (40 * r + k)) (m + 1) i f = rnK (fun k => h 67 (40 * r + k)) m (i + 1) (mvF f (h 67 (40 * r + i))) := by conv => lhs; unfold rnK; rw [if_neg hb]
      have e2 : rnT (fun k => h 67 (40 * r + k)) (m + 1) i f = rnT (fun k => h 67 (40 * r + k)) m (i + 1) (mvF f (h 67 (40 * r + i))) := by conv => lhs; unfold rnT; rw [if_neg hb]
      have cG : ∀ Q, call d 147 [.inr (.inr (some 74)), .inl (h 67 (40 * r + i))] G1 (setR h 74 f) Q = Q none G1 (setR h 74 (mvF f (h 67 (40 * r + i)))) := fun Q => by
        rw [S3_goMove (by omega) (Or.inr rfl) gi (by rw [setR_s]; exact hf.1), setR_s, setR_2]
      rw [e1, e2]
      refine Eq.trans ?_ (ih (i + 1) (mvF f (h 67 (40 * r + i))) (N + 1) (by omega) (mvF_ty gi hf) Q)
      conv => lhs; rw [X_169_51]
      conv => lhs; simp (disch := omega) only [X_169_0, X_169_1, X_169_4_t, X_169_4_f, X_169_4, X_169_7, X_169_9, X_169_10, X_169_11, X_169_14_t, X_169_14_f, X_169_14, X_169_17, X_169_18, X_169_19, X_169_20, X_169_21, X_169_22, X_169_24, X_169_27, X_169_28, X_169_29, X_169_30_t, X_169_30_f, X_169_30, X_169_33, X_169_34, X_169_35, X_169_36, X_169_39, X_169_40, X_169_42, X_169_45_t, X_169_45_f, X_169_45, X_169_48, X_169_49, X_169_53, X_169_54, X_169_57, X_169_58, X_169_59_t, X_169_59_f, X_169_59, X_169_62, X_169_63, X_169_66, X_169_67, X_169_70, X_169_72, X_169_73, X_169_74, X_169_76, X_169_77, X_169_78, X_169_81_t, X_169_81_f, X_169_81, X_169_84, X_169_86, X_169_87, X_169_88, X_169_91, X_169_92, X_169_95, X_169_97, X_169_98, X_169_99, X_169_101, X_169_102, X_169_103, X_169_106, X_169_109, X_169_112, X_169_113, X_169_116_t, X_169_116_f, X_169_116, X_169_119, X_169_120, X_169_121, X_169_124, X_169_127, X_169_129, r1_63_4, r1_63_5, r1_63_15, setR_n, tn40, Int.toNat_natCast, h68, cB, if_neg hb, cG, pushR_some, pushR_none, fixp_i, natS]
theorem M_rd2 {d r L : Nat} {s : Int} {h : AH} (hd : 3 ≤ d) (hr : r < 6) (hL : L ≤ 40) (h68 : h 68 r = (L : Int)) (hg : ∀ k, k < L → 0 ≤ h 67 (40 * r + k) ∧ h 67 (40 * r + k) < 4) (hf0 : lieOk (h 64)) : ∀ (m n : Nat) (f : TF) (N : Int) (l4 : Option AV), n + m = 201 → tyOk f N → ∃ F : TF, (∀ Q, wp d 169 41 [some (.inr (.inr (some 63))), some (.inl (r : Int)), some (.inl s), some (.inl (n : Int)), l4] [] G1 (setR h 74 f) Q = Q (some (.inl (rdF (fun k => h 67 (40 * r + k)) (h 64) L m n f))) G1 (setR h 74 F)) ∧ ∀ s, 98 ≤ s → F s = f s := by
  have g0 := g1_63
  intro m
  induction m with
  | zero =>
    intro n f N l4 hn hf
    obtain rfl : n = 201 := by omega
    refine ⟨f, fun Q => ?_, fun _ _ => rfl⟩
    simp (disch := omega) only [X_169_41, X_169_0, X_169_1, X_169_4_t, X_169_4_f, X_169_4, X_169_7, X_169_9, X_169_10, X_169_11, X_169_14_t, X_169_14_f, X_169_14, X_169_17, X_169_18, X_169_19, X_169_20, X_169_21, X_169_22, X_169_24, X_169_27, X_169_28, X_169_29, X_169_30_t, X_169_30_f, X_169_30, X_169_33, X_169_34, X_169_35, X_169_36, X_169_39, X_169_40, X_169_42, X_169_45_t, X_169_45_f, X_169_45, X_169_48, X_169_49, X_169_53, X_169_54, X_169_57, X_169_58, X_169_59_t, X_169_59_f, X_169_59, X_169_62, X_169_63, X_169_66, X_169_67, X_169_70, X_169_72, X_169_73, X_169_74, X_169_76, X_169_77, X_169_78, X_169_81_t, X_169_81_f, X_169_81, X_169_84, X_169_86, X_169_87, X_169_88, X_169_91, X_169_92, X_169_95, X_169_97, X_169_98, X_169_99, X_169_101, X_169_102, X_169_103, X_169_106, X_169_109, X_169_112, X_169_113, X_169_116_t, X_169_116_f, X_169_116, X_169_119, X_169_120, X_169_121, X_169_124, X_169_127, X_169_129]
    rfl
  | succ m ih =>
    intro n f N l4 hn hf
    have kle := rnK_le (g := fun k => h 67 (40 * r + k)) (m := L) (i := 0) (f := f)
    have ty := rnT_ty (g := fun k => h 67 (40 * r + k)) (m := L) (i := 0) (f := f) (N := N) (fun k k1 k2 => hg k (by omega)) hf
    have hi := fun (s : Nat) (hs : 98 ≤ s) => rnT_hi hs (g := fun k => h 67 (40 * r + k)) (m := L) (i := 0) (f := f) (fun k k1 k2 => hg k (by omega)) hf.1
    have q1 := fun Q => M_rd1 (s := s) (nn := (n : Int)) hd hr hL h68 hg L 0 f N (by omega) hf Q
    have eR : rdF (fun k => h 67 (40 * r + k)) (h 64) L (m + 1) n f = if rnK (fun k => h 67 (40 * r + k)) L 0 f < L then -9 else if lzF (rnT (fun k => h 67 (40 * r + k)) L 0 f) (h 64) = true then (n : Int) else rdF (fun k => h 67 (40 * r + k)) (h 64) L m (n + 1) (rnT (fun k => h 67 (40 * r + k)) L 0 f) := rfl
    have q0 : ∀ Q, wp d 169 41 [some (.inr (.inr (some 63))), some (.inl (r : Int)), some (.inl s), some (.inl (n : Int)), l4] [] G1 (setR h 74 f) Q = wp d 169 51 [some (.inr (.inr (some 63))), some (.inl (r : Int)), some (.inl s), some (.inl (n : Int)), some (.inl ((0 : Nat) : Int))] [] G1 (setR h 74 f) Q := fun Q => by
      conv => lhs; rw [X_169_41]
      conv => lhs; simp (disch := omega) only [X_169_0, X_169_1, X_169_4_t, X_169_4_f, X_169_4, X_169_7, X_169_9, X_169_10, X_169_11, X_169_14_t, X_169_14_f, X_169_14, X_169_17, X_169_18, X_169_19, X_169_20, X_169_21, X_169_22, X_169_24, X_169_27, X_169_28, X_169_29, X_169_30_t, X_169_30_f, X_169_30, X_169_33, X_169_34, X_169_35, X_169_36, X_169_39, X_169_40, X_169_42, X_169_45_t, X_169_45_f, X_169_45, X_169_48, X_169_49, X_169_53, X_169_54, X_169_57, X_169_58, X_169_59_t, X_169_59_f, X_169_59, X_169_62, X_169_63, X_169_66, X_169_67, X_169_70, X_169_72, X_169_73, X_169_74, X_169_76, X_169_77, X_169_78, X_169_81_t, X_169_81_f, X_169_81, X_169_84, X_169_86, X_169_87, X_169_88, X_169_91, X_169_92, X_169_95, X_169_97, X_169_98, X_169_99, X_169_101, X_169_102, X_169_103, X_169_106, X_169_109, X_169_112, X_169_113, X_169_116_t, X_169_116_f, X_169_116, X_169_119, X_169_120, X_169_121, X_169_124, X_169_127, X_169_129, fixp_i]
      rfl
    generalize eF : rnT (fun k => h 67 (40 * r + k)) L 0 f = F at *
    rw [eR]
    by_cases z1 : rnK (fun k => h 67 (40 * r + k)) L 0 f < L
    · refine ⟨F, fun Q => ?_, hi⟩
      rw [q0, q1, if_pos z1, if_pos z1]
    · have eLz : allF (fun c => decide (setR h 74 F 74 (69 + c) = setR h 74 F 64 (69 + c))) 14 0 = lzF F (h 64) := allF_congr (fun c c1 c2 => by rw [setR_s, setR_n (by omega)])
      have cL : ∀ Q, call d 168 [.inr (.inr (some 63))] G1 (setR h 74 F) Q = if lzF F (h 64) = true then Q (some (.inl 1)) G1 (setR h 74 F) else Q (some (.inl 0)) G1 (setR h 74 F) := fun Q => by
        rw [S3_liesAsNow (by omega) (fun c hc => by rw [setR_s, setR_n (by omega)]; exact ⟨ty.1.1 c hc, hf0.1 c hc⟩), eLz]
      by_cases z2 : lzF F (h 64) = true
      · refine ⟨F, fun Q => ?_, hi⟩
        rw [q0, q1, if_neg z1, if_neg z1, if_pos z2]
        simp (disch := omega) only [X_169_0, X_169_1, X_169_4_t, X_169_4_f, X_169_4, X_169_7, X_169_9, X_169_10, X_169_11, X_169_14_t, X_169_14_f, X_169_14, X_169_17, X_169_18, X_169_19, X_169_20, X_169_21, X_169_22, X_169_24, X_169_27, X_169_28, X_169_29, X_169_30_t, X_169_30_f, X_169_30, X_169_33, X_169_34, X_169_35, X_169_36, X_169_39, X_169_40, X_169_42, X_169_45_t, X_169_45_f, X_169_45, X_169_48, X_169_49, X_169_53, X_169_54, X_169_57, X_169_58, X_169_59_t, X_169_59_f, X_169_59, X_169_62, X_169_63, X_169_66, X_169_67, X_169_70, X_169_72, X_169_73, X_169_74, X_169_76, X_169_77, X_169_78, X_169_81_t, X_169_81_f, X_169_81, X_169_84, X_169_86, X_169_87, X_169_88, X_169_91, X_169_92, X_169_95, X_169_97, X_169_98, X_169_99, X_169_101, X_169_102, X_169_103, X_169_106, X_169_109, X_169_112, X_169_113, X_169_116_t, X_169_116_f, X_169_116, X_169_119, X_169_120, X_169_121, X_169_124, X_169_127, X_169_129, cL, if_pos z2, pushR_some]
      · obtain ⟨F2, c2, hi2⟩ := ih (n + 1) F (N + (L : Int)) (some (.inl (L : Int))) (by omega) ty
        refine ⟨F2, fun Q => ?_, fun s hs => by rw [hi2 s hs, hi s hs]⟩
        rw [q0, q1, if_neg z1, if_neg z1, if_neg z2]
        refine Eq.trans ?_ (c2 Q)
        conv => lhs; simp (disch := omega) only [X_169_0, X_169_1, X_169_4_t, X_169_4_f, X_169_4, X_169_7, X_169_9, X_169_10, X_169_11, X_169_14_t, X_169_14_f, X_169_14, X_169_17, X_169_18, X_169_19, X_169_20, X_169_21, X_169_22, X_169_24, X_169_27, X_169_28, X_169_29, X_169_30_t, X_169_30_f, X_169_30, X_169_33, X_169_34, X_169_35, X_169_36, X_169_39, X_169_40, X_169_42, X_169_45_t, X_169_45_f, X_169_45, X_169_48, X_169_49, X_169_53, X_169_54, X_169_57, X_169_58, X_169_59_t, X_169_59_f, X_169_59, X_169_62, X_169_63, X_169_66, X_169_67, X_169_70, X_169_72, X_169_73, X_169_74, X_169_76, X_169_77, X_169_78, X_169_81_t, X_169_81_f, X_169_81, X_169_84, X_169_86, X_169_87, X_169_88, X_169_91, X_169_92, X_169_95, X_169_97, X_169_98, X_169_99, X_169_101, X_169_102, X_169_103, X_169_106, X_169_109, X_169_112, X_169_113, X_169_116_t, X_169_116_f, X_169_116, X_169_119, X_169_120, X_169_121, X_169_124, X_169_127, X_169_129, cL, if_neg z2, pushR_some, fixp_i, natS]
theorem rdF_b {g f0 : TF} {L : Nat} : ∀ {m n : Nat} {f : TF}, n + m ≤ 201 → -9 ≤ rdF g f0 L m n f ∧ rdF g f0 L m n f ≤ 201
  | 0, _, _, _ => by unfold rdF; omega
  | m + 1, n, f, h => by
    unfold rdF
    split
    · omega
    · split
      · omega
      · exact rdF_b (by omega)
theorem Op_rounds {x : Int} (h_x : -2147483648 ≤ x ∧ x < 2147483648) : OpI 59 169 [.inl x] := by
  intro n h H hn
  have g0 := g1_0
  have g1 := g1_1
  have g3 := g1_3
  have g63 := g1_63
  have t3 : isToy 3 := Or.inl rfl
  have t10 : isToy 10 := Or.inr (Or.inl rfl)
  have s10 := toy_s t10
  rcases LIV_c H with L | L
  · refine OpI_same (r := -4) (by omega) H (fun Q => ?_) (fun Q => ?_)
    · rw [C_59]
      simp (disch := omega) only [X_59_0, X_59_1, X_59_4, X_59_7_t, X_59_7_f, X_59_7, X_59_10, X_59_12, X_59_13, X_59_14, X_59_17_t, X_59_17_f, X_59_17, X_59_20, X_59_21, X_59_22, X_59_23, X_59_24, X_59_27, X_59_28, X_59_29, X_59_30, X_59_32, X_59_35, X_59_36, X_59_37_t, X_59_37_f, X_59_37, X_59_40, X_59_41, X_59_42, X_59_43, X_59_46, X_59_47, X_59_50, X_59_53, X_59_54, X_59_56, X_59_59_t, X_59_59_f, X_59_59, X_59_62, X_59_63, X_59_64, X_59_67, X_59_68, X_59_69, X_59_72, X_59_73, X_59_76, X_59_77, X_59_78, X_59_81_t, X_59_81_f, X_59_81, X_59_84, X_59_86, X_59_87, X_59_88, X_59_91, X_59_92, X_59_95, X_59_98_t, X_59_98_f, X_59_98, X_59_101, X_59_102, X_59_103, X_59_106, X_59_109, X_59_111, r1_0_2]
    · rw [C_169]
      simp (disch := omega) only [X_169_0, X_169_1, X_169_4_t, X_169_4_f, X_169_4, X_169_7, X_169_9, X_169_10, X_169_11, X_169_14_t, X_169_14_f, X_169_14, X_169_17, X_169_18, X_169_19, X_169_20, X_169_21, X_169_22, X_169_24, X_169_27, X_169_28, X_169_29, X_169_30_t, X_169_30_f, X_169_30, X_169_33, X_169_34, X_169_35, X_169_36, X_169_39, X_169_40, X_169_42, X_169_45_t, X_169_45_f, X_169_45, X_169_48, X_169_49, X_169_53, X_169_54, X_169_57, X_169_58, X_169_59_t, X_169_59_f, X_169_59, X_169_62, X_169_63, X_169_66, X_169_67, X_169_70, X_169_72, X_169_73, X_169_74, X_169_76, X_169_77, X_169_78, X_169_81_t, X_169_81_f, X_169_81, X_169_84, X_169_86, X_169_87, X_169_88, X_169_91, X_169_92, X_169_95, X_169_97, X_169_98, X_169_99, X_169_101, X_169_102, X_169_103, X_169_106, X_169_109, X_169_112, X_169_113, X_169_116_t, X_169_116_f, X_169_116, X_169_119, X_169_120, X_169_121, X_169_124, X_169_127, X_169_129]
  obtain ⟨L1, L2, L3⟩ := L
  by_cases h1 : 0 ≤ x ∧ x < 6
  case neg =>
    refine OpI_same (r := -1) (by omega) H (fun Q => ?_) (fun Q => ?_)
    · rw [C_59]
      simp (disch := omega) only [X_59_0, X_59_1, X_59_4, X_59_7_t, X_59_7_f, X_59_7, X_59_10, X_59_12, X_59_13, X_59_14, X_59_17_t, X_59_17_f, X_59_17, X_59_20, X_59_21, X_59_22, X_59_23, X_59_24, X_59_27, X_59_28, X_59_29, X_59_30, X_59_32, X_59_35, X_59_36, X_59_37_t, X_59_37_f, X_59_37, X_59_40, X_59_41, X_59_42, X_59_43, X_59_46, X_59_47, X_59_50, X_59_53, X_59_54, X_59_56, X_59_59_t, X_59_59_f, X_59_59, X_59_62, X_59_63, X_59_64, X_59_67, X_59_68, X_59_69, X_59_72, X_59_73, X_59_76, X_59_77, X_59_78, X_59_81_t, X_59_81_f, X_59_81, X_59_84, X_59_86, X_59_87, X_59_88, X_59_91, X_59_92, X_59_95, X_59_98_t, X_59_98_f, X_59_98, X_59_101, X_59_102, X_59_103, X_59_106, X_59_109, X_59_111, r1_0_2, S_isRow_f, pushR_some]
    · rw [C_169]
      simp (disch := omega) only [X_169_0, X_169_1, X_169_4_t, X_169_4_f, X_169_4, X_169_7, X_169_9, X_169_10, X_169_11, X_169_14_t, X_169_14_f, X_169_14, X_169_17, X_169_18, X_169_19, X_169_20, X_169_21, X_169_22, X_169_24, X_169_27, X_169_28, X_169_29, X_169_30_t, X_169_30_f, X_169_30, X_169_33, X_169_34, X_169_35, X_169_36, X_169_39, X_169_40, X_169_42, X_169_45_t, X_169_45_f, X_169_45, X_169_48, X_169_49, X_169_53, X_169_54, X_169_57, X_169_58, X_169_59_t, X_169_59_f, X_169_59, X_169_62, X_169_63, X_169_66, X_169_67, X_169_70, X_169_72, X_169_73, X_169_74, X_169_76, X_169_77, X_169_78, X_169_81_t, X_169_81_f, X_169_81, X_169_84, X_169_86, X_169_87, X_169_88, X_169_91, X_169_92, X_169_95, X_169_97, X_169_98, X_169_99, X_169_101, X_169_102, X_169_103, X_169_106, X_169_109, X_169_112, X_169_113, X_169_116_t, X_169_116_f, X_169_116, X_169_119, X_169_120, X_169_121, X_169_124, X_169_127, X_169_129, S3_isRow_f, pushR_some]
  obtain ⟨r, rfl⟩ := nat_of h1.1
  have hr : r < 6 := by omega
  have hR := rows_r hr
  have sR := rw_s hR.2
  have R := H.2.2.1 r hr
  have R' := R
  obtain ⟨R1, R2, R3, R4, R5⟩ := R'
  by_cases h2 : h 68 r < 0
  case pos =>
    have cF : ∀ Q, call 29 90 [.inr (.inr (some 0)), .inr (.inr (some (22 + 2 * r))), .inl 1, .inl 20] G1 h Q = Q (some (.inl (-3))) G1 (fnd h 1) := fun Q => S_mr_m (by omega) hr R h2
    have w68 : fnd h 1 68 r = h 68 r := by rw [fnd_o (by omega) (by omega)]
    have w63 : fnd h 1 63 1 = 1 := by rw [fnd_o (by omega) (by omega)]; exact L1
    refine OpI_find (w := 1) (by omega) H (fun Q => ?_) (fun Q => ?_)
    · rw [C_59]
      simp (disch := omega) only [X_59_0, X_59_1, X_59_4, X_59_7_t, X_59_7_f, X_59_7, X_59_10, X_59_12, X_59_13, X_59_14, X_59_17_t, X_59_17_f, X_59_17, X_59_20, X_59_21, X_59_22, X_59_23, X_59_24, X_59_27, X_59_28, X_59_29, X_59_30, X_59_32, X_59_35, X_59_36, X_59_37_t, X_59_37_f, X_59_37, X_59_40, X_59_41, X_59_42, X_59_43, X_59_46, X_59_47, X_59_50, X_59_53, X_59_54, X_59_56, X_59_59_t, X_59_59_f, X_59_59, X_59_62, X_59_63, X_59_64, X_59_67, X_59_68, X_59_69, X_59_72, X_59_73, X_59_76, X_59_77, X_59_78, X_59_81_t, X_59_81_f, X_59_81, X_59_84, X_59_86, X_59_87, X_59_88, X_59_91, X_59_92, X_59_95, X_59_98_t, X_59_98_f, X_59_98, X_59_101, X_59_102, X_59_103, X_59_106, X_59_109, X_59_111, r1_0_2, r1_0_0, S_isRow_t, Int.toNat_natCast, hR.1, cF, pushR_some, fixp_i]
    · rw [C_169]
      simp (disch := omega) only [X_169_0, X_169_1, X_169_4_t, X_169_4_f, X_169_4, X_169_7, X_169_9, X_169_10, X_169_11, X_169_14_t, X_169_14_f, X_169_14, X_169_17, X_169_18, X_169_19, X_169_20, X_169_21, X_169_22, X_169_24, X_169_27, X_169_28, X_169_29, X_169_30_t, X_169_30_f, X_169_30, X_169_33, X_169_34, X_169_35, X_169_36, X_169_39, X_169_40, X_169_42, X_169_45_t, X_169_45_f, X_169_45, X_169_48, X_169_49, X_169_53, X_169_54, X_169_57, X_169_58, X_169_59_t, X_169_59_f, X_169_59, X_169_62, X_169_63, X_169_66, X_169_67, X_169_70, X_169_72, X_169_73, X_169_74, X_169_76, X_169_77, X_169_78, X_169_81_t, X_169_81_f, X_169_81, X_169_84, X_169_86, X_169_87, X_169_88, X_169_91, X_169_92, X_169_95, X_169_97, X_169_98, X_169_99, X_169_101, X_169_102, X_169_103, X_169_106, X_169_109, X_169_112, X_169_113, X_169_116_t, X_169_116_f, X_169_116, X_169_119, X_169_120, X_169_121, X_169_124, X_169_127, X_169_129, S3_isRow_t, S3_la_m, pushR_some, fixp_i]
  by_cases h3 : 1 ≤ h 68 r ∧ h 68 r ≤ 20
  case neg =>
    have cF : ∀ Q, call 29 90 [.inr (.inr (some 0)), .inr (.inr (some (22 + 2 * r))), .inl 1, .inl 20] G1 h Q = Q (some (.inl (-3))) G1 (fnd h 5) := fun Q => S_mr_s (by omega) hr R (by omega) (by omega) (by omega)
    have w68 : fnd h 5 68 r = h 68 r := by rw [fnd_o (by omega) (by omega)]
    have w63 : fnd h 5 63 1 = 1 := by rw [fnd_o (by omega) (by omega)]; exact L1
    refine OpI_find (w := 5) (by omega) H (fun Q => ?_) (fun Q => ?_)
    · rw [C_59]
      simp (disch := omega) only [X_59_0, X_59_1, X_59_4, X_59_7_t, X_59_7_f, X_59_7, X_59_10, X_59_12, X_59_13, X_59_14, X_59_17_t, X_59_17_f, X_59_17, X_59_20, X_59_21, X_59_22, X_59_23, X_59_24, X_59_27, X_59_28, X_59_29, X_59_30, X_59_32, X_59_35, X_59_36, X_59_37_t, X_59_37_f, X_59_37, X_59_40, X_59_41, X_59_42, X_59_43, X_59_46, X_59_47, X_59_50, X_59_53, X_59_54, X_59_56, X_59_59_t, X_59_59_f, X_59_59, X_59_62, X_59_63, X_59_64, X_59_67, X_59_68, X_59_69, X_59_72, X_59_73, X_59_76, X_59_77, X_59_78, X_59_81_t, X_59_81_f, X_59_81, X_59_84, X_59_86, X_59_87, X_59_88, X_59_91, X_59_92, X_59_95, X_59_98_t, X_59_98_f, X_59_98, X_59_101, X_59_102, X_59_103, X_59_106, X_59_109, X_59_111, r1_0_2, r1_0_0, S_isRow_t, Int.toNat_natCast, hR.1, cF, pushR_some, fixp_i]
    · rw [C_169]
      simp (disch := omega) only [X_169_0, X_169_1, X_169_4_t, X_169_4_f, X_169_4, X_169_7, X_169_9, X_169_10, X_169_11, X_169_14_t, X_169_14_f, X_169_14, X_169_17, X_169_18, X_169_19, X_169_20, X_169_21, X_169_22, X_169_24, X_169_27, X_169_28, X_169_29, X_169_30_t, X_169_30_f, X_169_30, X_169_33, X_169_34, X_169_35, X_169_36, X_169_39, X_169_40, X_169_42, X_169_45_t, X_169_45_f, X_169_45, X_169_48, X_169_49, X_169_53, X_169_54, X_169_57, X_169_58, X_169_59_t, X_169_59_f, X_169_59, X_169_62, X_169_63, X_169_66, X_169_67, X_169_70, X_169_72, X_169_73, X_169_74, X_169_76, X_169_77, X_169_78, X_169_81_t, X_169_81_f, X_169_81, X_169_84, X_169_86, X_169_87, X_169_88, X_169_91, X_169_92, X_169_95, X_169_97, X_169_98, X_169_99, X_169_101, X_169_102, X_169_103, X_169_106, X_169_109, X_169_112, X_169_113, X_169_116_t, X_169_116_f, X_169_116, X_169_119, X_169_120, X_169_121, X_169_124, X_169_127, X_169_129, S3_isRow_t, S3_la_s, pushR_some, fixp_i]
  have cF : ∀ Q, call 29 90 [.inr (.inr (some 0)), .inr (.inr (some (22 + 2 * r))), .inl 1, .inl 20] G1 h Q = _ := fun Q => S_mr_a (by omega) hr R (by omega) (by omega) (by omega)
  have cL : ∀ (h' : AH) Q, h' 67 = h 67 → h' 68 = h 68 → call 29 166 [.inr (.inr (some 63)), .inl (r : Int), .inl 1, .inl 20] G1 h' Q = if mvOk h r = true then Q (some (.inl 1)) G1 h' else Q (some (.inl (-3))) G1 (fn3 h' 3) := fun h' Q e1 e2 => by
    have e3 : mvOk h' r = mvOk h r := by unfold mvOk; rw [e1, e2]
    rw [S3_la_a (by omega) hr (by rw [e2]; omega) (by rw [e2]; omega) (by omega) (by rw [e2]; omega) (fun k hk => by rw [e1]; rw [e2] at hk; exact (R5 k hk).2), e3]
  by_cases hm : mvOk h r = true
  case neg =>
    have cL2 := fun Q => cL (fnd h 3) Q (fnd_o (by omega) (by omega)) (fnd_o (by omega) (by omega))
    have w63 : fnd h 3 63 1 = 1 := by rw [fnd_o (by omega) (by omega)]; exact L1
    refine OpI_find (w := 3) (by omega) H (fun Q => ?_) (fun Q => ?_)
    · rw [C_59]
      simp (disch := omega) only [X_59_0, X_59_1, X_59_4, X_59_7_t, X_59_7_f, X_59_7, X_59_10, X_59_12, X_59_13, X_59_14, X_59_17_t, X_59_17_f, X_59_17, X_59_20, X_59_21, X_59_22, X_59_23, X_59_24, X_59_27, X_59_28, X_59_29, X_59_30, X_59_32, X_59_35, X_59_36, X_59_37_t, X_59_37_f, X_59_37, X_59_40, X_59_41, X_59_42, X_59_43, X_59_46, X_59_47, X_59_50, X_59_53, X_59_54, X_59_56, X_59_59_t, X_59_59_f, X_59_59, X_59_62, X_59_63, X_59_64, X_59_67, X_59_68, X_59_69, X_59_72, X_59_73, X_59_76, X_59_77, X_59_78, X_59_81_t, X_59_81_f, X_59_81, X_59_84, X_59_86, X_59_87, X_59_88, X_59_91, X_59_92, X_59_95, X_59_98_t, X_59_98_f, X_59_98, X_59_101, X_59_102, X_59_103, X_59_106, X_59_109, X_59_111, r1_0_2, r1_0_0, S_isRow_t, Int.toNat_natCast, hR.1, cF, if_neg hm, pushR_some, fixp_i]
    · rw [C_169]
      simp (disch := omega) only [X_169_0, X_169_1, X_169_4_t, X_169_4_f, X_169_4, X_169_7, X_169_9, X_169_10, X_169_11, X_169_14_t, X_169_14_f, X_169_14, X_169_17, X_169_18, X_169_19, X_169_20, X_169_21, X_169_22, X_169_24, X_169_27, X_169_28, X_169_29, X_169_30_t, X_169_30_f, X_169_30, X_169_33, X_169_34, X_169_35, X_169_36, X_169_39, X_169_40, X_169_42, X_169_45_t, X_169_45_f, X_169_45, X_169_48, X_169_49, X_169_53, X_169_54, X_169_57, X_169_58, X_169_59_t, X_169_59_f, X_169_59, X_169_62, X_169_63, X_169_66, X_169_67, X_169_70, X_169_72, X_169_73, X_169_74, X_169_76, X_169_77, X_169_78, X_169_81_t, X_169_81_f, X_169_81, X_169_84, X_169_86, X_169_87, X_169_88, X_169_91, X_169_92, X_169_95, X_169_97, X_169_98, X_169_99, X_169_101, X_169_102, X_169_103, X_169_106, X_169_109, X_169_112, X_169_113, X_169_116_t, X_169_116_f, X_169_116, X_169_119, X_169_120, X_169_121, X_169_124, X_169_127, X_169_129, S3_isRow_t, cL2, if_neg hm, pushR_some, fixp_i]
  obtain ⟨LL, hLL⟩ := nat_of (x := h 68 r) (by omega)
  have mk := mvOk_iff hLL hm
  have hf := FUL_ty L3
  have hz := H.2.2.2.2.1.2.2.2
  obtain ⟨ha, cA, TA, FA, A8, A9⟩ := S_takeBeads (d := 29) (t := 10) (u := 3) (h := h) (f := h 64) (by omega) t10 t3 (by omega) L3.1 (Or.inr L2) hf.1
  have T3 : TR ha 3 (h 64) := TR_keep L3.1 (FA _ (by omega)) (FA _ (by omega)) (FA _ (by omega)) (FA _ (by omega)) (FA _ (by omega)) (by rw [FA _ (by omega)])
  obtain ⟨hd, cR, FR⟩ := L_rounds (e := 28) (r := r) (L := LL) (g := fun k => h 67 (40 * r + k)) (f0 := h 64) (s := 0) (by omega) hr (by omega) mk hf.1 200 1 (h 64) 40 ha (by omega) (by rw [FA _ (by omega)]; omega) (fun k hk => by rw [FA _ (by omega)]; exact (R5 k (by omega)).1) (by rw [FA _ (by omega)]; exact H.1) T3 TA hf
  have fd : ∀ a, (a < 10 ∨ 17 ≤ a) → hd a = h a := fun a a1 => by rw [FR a a1, FA a (by omega)]
  have d67 : hd 67 = h 67 := fd 67 (by omega)
  have d68 : hd 68 = h 68 := fd 68 (by omega)
  have d64 : hd 64 = h 64 := fd 64 (by omega)
  have d63 : hd 63 1 = 1 := by rw [fd 63 (by omega), L1]
  have d74 : ∀ s, 98 ≤ s → hd 74 s = 0 := fun s hs => by rw [fd 74 (by omega)]; exact H.2.1 s hs
  have cL2 := fun Q => cL hd Q d67 d68
  have cH : ∀ Q, call 29 164 [.inr (.inr (some 63))] G1 hd Q = Q none G1 (setR hd 74 (h 64)) := fun Q => by rw [S3_layHand (by omega) (fun s hs => by rw [d74 s hs, d64, hz s hs]), d64]
  obtain ⟨F, q1, qF⟩ := M_rd2 (d := 29) (r := r) (L := LL) (s := 1) (h := hd) (by omega) hr (by omega) (by rw [d68]; exact hLL) (fun k hk => by rw [d67]; exact mk k hk) (by rw [d64]; exact hf.1) 200 1 (h 64) 40 none (by omega) hf
  rw [d67, d64] at q1
  have bb := rdF_b (g := fun k => h 67 (40 * r + k)) (f0 := h 64) (L := LL) (m := 200) (n := 1) (f := h 64) (by omega)
  refine ⟨rdF (fun k => h 67 (40 * r + k)) (h 64) LL 200 1 (h 64), hd, setR hd 74 F, by omega, fun Q => ?_, fun Q => ?_, INV_same (INV_scr H (fun a a1 => ?_) (fun s hs => ?_))⟩
  · rw [C_59]
    simp (disch := omega) only [X_59_0, X_59_1, X_59_4, X_59_7_t, X_59_7_f, X_59_7, X_59_10, X_59_12, X_59_13, X_59_14, X_59_17_t, X_59_17_f, X_59_17, X_59_20, X_59_21, X_59_22, X_59_23, X_59_24, X_59_27, X_59_28, X_59_29, X_59_30, X_59_32, X_59_35, X_59_36, X_59_37_t, X_59_37_f, X_59_37, X_59_40, X_59_41, X_59_42, X_59_43, X_59_46, X_59_47, X_59_50, X_59_53, X_59_54, X_59_56, X_59_59_t, X_59_59_f, X_59_59, X_59_62, X_59_63, X_59_64, X_59_67, X_59_68, X_59_69, X_59_72, X_59_73, X_59_76, X_59_77, X_59_78, X_59_81_t, X_59_81_f, X_59_81, X_59_84, X_59_86, X_59_87, X_59_88, X_59_91, X_59_92, X_59_95, X_59_98_t, X_59_98_f, X_59_98, X_59_101, X_59_102, X_59_103, X_59_106, X_59_109, X_59_111, r1_0_2, r1_0_0, r1_0_3, S_isRow_t, Int.toNat_natCast, hR.1, cF, if_pos hm, cA, pushR_some, pushR_none, fixp_i]
    exact cR Q
  · rw [C_169]
    simp (disch := omega) only [X_169_0, X_169_1, X_169_4_t, X_169_4_f, X_169_4, X_169_7, X_169_9, X_169_10, X_169_11, X_169_14_t, X_169_14_f, X_169_14, X_169_17, X_169_18, X_169_19, X_169_20, X_169_21, X_169_22, X_169_24, X_169_27, X_169_28, X_169_29, X_169_30_t, X_169_30_f, X_169_30, X_169_33, X_169_34, X_169_35, X_169_36, X_169_39, X_169_40, X_169_42, X_169_45_t, X_169_45_f, X_169_45, X_169_48, X_169_49, X_169_53, X_169_54, X_169_57, X_169_58, X_169_59_t, X_169_59_f, X_169_59, X_169_62, X_169_63, X_169_66, X_169_67, X_169_70, X_169_72, X_169_73, X_169_74, X_169_76, X_169_77, X_169_78, X_169_81_t, X_169_81_f, X_169_81, X_169_84, X_169_86, X_169_87, X_169_88, X_169_91, X_169_92, X_169_95, X_169_97, X_169_98, X_169_99, X_169_101, X_169_102, X_169_103, X_169_106, X_169_109, X_169_112, X_169_113, X_169_116_t, X_169_116_f, X_169_116, X_169_119, X_169_120, X_169_121, X_169_124, X_169_127, X_169_129, S3_isRow_t, cL2, if_pos hm, cH, pushR_some, pushR_none, fixp_i]
    exact q1 Q
  · have n74 : ¬ a = 74 := fun z => a1 (by unfold scr; omega)
    have n10 : a < 10 ∨ 17 ≤ a := by have : ¬ (10 ≤ a ∧ a < 17) := fun z => a1 (Or.inl z); omega
    rw [setR_n n74, fd a n10]
  · rw [setR_s, qF s hs]; exact hz s hs
