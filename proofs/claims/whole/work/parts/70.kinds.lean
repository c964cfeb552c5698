/-! 70: of which kind, of which colour a bead can be -/
def bI (b : Bool) : Int := match b with
  | true => 1
  | false => 0
/-- the cell of a bead -/
noncomputable def clF (f : TF) (i : Nat) : Nat := Classical.epsilon (fun c => c < 14 ∧ f (69 + c) = (i : Int))
theorem clF_ok {f : TF} {N : Int} {i : Nat} (hf : tyOk f N) (hi : i < 14) : clF f i < 14 ∧ f (69 + clF f i) = (i : Int) := Classical.epsilon_spec (p := fun c => c < 14 ∧ f (69 + c) = (i : Int)) (hf.2.1 i hi)
noncomputable def sdF (g : TF) (i : Nat) : Nat → Nat → TF → Bool
  | 0, _, _ => true
  | m + 1, j, f => if barM f (g (2 * j)) then false else if shF (mvF f (g (2 * j))) (clF (mvF f (g (2 * j))) i) = g (2 * j + 1) then sdF g i m (j + 1) (mvF f (g (2 * j))) else false
theorem sdF_b {g : TF} {i m j : Nat} {f : TF} (hb : barM f (g (2 * j))) : sdF g i (m + 1) j f = false := by unfold sdF; rw [if_pos hb]
theorem sdF_n {g : TF} {i m j : Nat} {f : TF} (hb : ¬ barM f (g (2 * j))) (hs : ¬ shF (mvF f (g (2 * j))) (clF (mvF f (g (2 * j))) i) = g (2 * j + 1)) : sdF g i (m + 1) j f = false := by unfold sdF; rw [if_neg hb, if_neg hs]
theorem sdF_y {g : TF} {i m j : Nat} {f : TF} (hb : ¬ barM f (g (2 * j))) (hs : shF (mvF f (g (2 * j))) (clF (mvF f (g (2 * j))) i) = g (2 * j + 1)) : sdF g i (m + 1) j f = sdF g i m (j + 1) (mvF f (g (2 * j))) := by conv => lhs; unfold sdF; rw [if_neg hb, if_pos hs]
theorem L_sd {d r M i : Nat} {g : TF} (hd : 4 ≤ d) (hr : r < 6) (hM : M ≤ 8) (hi : i < 14) (hg : ∀ k, k < M → (0 ≤ g (2 * k) ∧ g (2 * k) < 4) ∧ 0 ≤ g (2 * k + 1) ∧ g (2 * k + 1) < 10) : ∀ (m j : Nat) (f : TF) (N : Int) (h : AH), j + m = M → N + (m : Int) ≤ 900000 → h (22 + 2 * r) 2 = ((2 * M : Nat) : Int) → (∀ k, k < 2 * M → h (23 + 2 * r) k = g k) → h 1000 = rgT → TR h 10 f → tyOk f N → ∃ h', (∀ Q, wp d 111 2 [some (.inr (.inr (some 0))), some (.inl (i : Int)), some (.inr (.inr (some (22 + 2 * r)))), some (.inl ((2 * j : Nat) : Int))] [] G1 h Q = Q (some (.inl (bI (sdF g i m j f)))) G1 h') ∧ (∀ a, (a < 10 ∨ 16 ≤ a) → h' a = h a) := by
  have g0 := g1_0
  have hR := rows_r hr
  have hw := hR.2
  have hs := rw_s hw
  have hrw := rwL_r hr
  have t10 : isToy 10 := Or.inr (Or.inl rfl)
  have s10 := toy_s t10
  intro m
  induction m with
  | zero =>
    intro j f N h hj hN e1 e2 eR hT hf
    obtain rfl : j = M := by omega
    refine ⟨h, fun Q => ?_, fun _ _ => rfl⟩
    simp (disch := omega) only [X_111_2, X_111_0, X_111_1, X_111_3, X_111_4, X_111_5, X_111_6, X_111_9_t, X_111_9_f, X_111_9, X_111_12, X_111_13, X_111_16, X_111_17, X_111_18, X_111_21, X_111_24_t, X_111_24_f, X_111_24, X_111_27, X_111_28, X_111_29, X_111_30, X_111_33, X_111_34, X_111_35, X_111_38, X_111_41, X_111_42, X_111_45, X_111_46, X_111_49, X_111_50, X_111_51, X_111_52, X_111_53, X_111_56_t, X_111_56_f, X_111_56, X_111_59, X_111_60, X_111_61, X_111_64, X_111_67, X_111_68, e1]
    rfl
  | succ m ih =>
    intro j f N h hj hN e1 e2 eR hT hf
    have gj := hg j (by omega)
    have g2 := gj.1
    have q0 : h (22 + 2 * r + 1) (2 * j) = g (2 * j) := by rw [q23]; exact e2 _ (by omega)
    have cb : ∀ Q, call d 24 [.inr (.inr (some 10)), .inl (g (2 * j))] G1 h Q = if barM f (g (2 * j)) then Q (some (.inl 1)) G1 h else Q (some (.inl 0)) G1 h := fun Q => S_bars hd t10 gj.1 hT hf.1 hf.2.2.1
    by_cases hb : barM f (g (2 * j))
    · refine ⟨h, fun Q => ?_, fun _ _ => rfl⟩
      rw [sdF_b hb, X_111_2]
      simp (disch := omega) only [X_111_0, X_111_1, X_111_3, X_111_4, X_111_5, X_111_6, X_111_9_t, X_111_9_f, X_111_9, X_111_12, X_111_13, X_111_16, X_111_17, X_111_18, X_111_21, X_111_24_t, X_111_24_f, X_111_24, X_111_27, X_111_28, X_111_29, X_111_30, X_111_33, X_111_34, X_111_35, X_111_38, X_111_41, X_111_42, X_111_45, X_111_46, X_111_49, X_111_50, X_111_51, X_111_52, X_111_53, X_111_56_t, X_111_56_f, X_111_56, X_111_59, X_111_60, X_111_61, X_111_64, X_111_67, X_111_68, e1, r1_0_3, S_get, Int.toNat_natCast, q0, cb, if_pos hb, pushR_some, natS, bI]
    · obtain ⟨h1, c1, T1, F1⟩ := S_makeMove (d := d) (t := 10) (m := g (2 * j)) (h := h) (f := f) (by omega) t10 eR gj.1 hT hf.1
      have fo : ∀ a, (a < 10 ∨ 16 ≤ a) → h1 a = h a := fun a ha => F1.1 a (by omega)
      have ty1 := mvF_ty gj.1 hf
      have ck := clF_ok ty1 hi
      have sr := shF_rng ty1 (by omega) ck.1
      have q1 : h1 (22 + 2 * r + 1) (2 * j + 1) = g (2 * j + 1) := by rw [q23, fo _ (by omega)]; exact e2 _ (by omega)
      have cs : ∀ Q, call d 18 [.inr (.inr (some 10)), .inl (i : Int)] G1 h1 Q = Q (some (.inl (shF (mvF f (g (2 * j))) (clF (mvF f (g (2 * j))) i)))) G1 h1 := fun Q => by
        have q := S_showAt (d := d) (t := 10) (c := clF (mvF f (g (2 * j))) i) (N := N + 1) (h := h1) (Q := Q) (by omega) t10 ck.1 T1 ty1 (by omega)
        rw [T1.2.2.1 _ ck.1, ck.2] at q
        exact q
      have e1b : h1 (22 + 2 * r) 2 = ((2 * M : Nat) : Int) := by rw [fo _ (by omega), e1]
      by_cases hsh : shF (mvF f (g (2 * j))) (clF (mvF f (g (2 * j))) i) = g (2 * j + 1)
      · obtain ⟨h', c2, F2⟩ := ih (j + 1) (mvF f (g (2 * j))) (N + 1) h1 (by omega) (by omega) e1b (fun k hk => by rw [fo _ (by omega), e2 k hk]) (by rw [fo _ (by omega), eR]) T1 ty1
        refine ⟨h', fun Q => ?_, fun a ha => by rw [F2 a ha, fo a ha]⟩
        rw [sdF_y hb hsh]
        refine Eq.trans ?_ (c2 Q)
        conv => lhs; rw [X_111_2]
        conv => lhs; simp (disch := omega) only [X_111_0, X_111_1, X_111_3, X_111_4, X_111_5, X_111_6, X_111_9_t, X_111_9_f, X_111_9, X_111_12, X_111_13, X_111_16, X_111_17, X_111_18, X_111_21, X_111_24_t, X_111_24_f, X_111_24, X_111_27, X_111_28, X_111_29, X_111_30, X_111_33, X_111_34, X_111_35, X_111_38, X_111_41, X_111_42, X_111_45, X_111_46, X_111_49, X_111_50, X_111_51, X_111_52, X_111_53, X_111_56_t, X_111_56_f, X_111_56, X_111_59, X_111_60, X_111_61, X_111_64, X_111_67, X_111_68, e1, r1_0_3, S_get, Int.toNat_natCast, q0, cb, if_neg hb, c1, cs, q1, pushR_some, pushR_none, fixp_i, fixp_r, natS, natS2]
      · refine ⟨h1, fun Q => ?_, fo⟩
        rw [sdF_n hb hsh]
        conv => lhs; rw [X_111_2]
        conv => lhs; simp (disch := omega) only [X_111_0, X_111_1, X_111_3, X_111_4, X_111_5, X_111_6, X_111_9_t, X_111_9_f, X_111_9, X_111_12, X_111_13, X_111_16, X_111_17, X_111_18, X_111_21, X_111_24_t, X_111_24_f, X_111_24, X_111_27, X_111_28, X_111_29, X_111_30, X_111_33, X_111_34, X_111_35, X_111_38, X_111_41, X_111_42, X_111_45, X_111_46, X_111_49, X_111_50, X_111_51, X_111_52, X_111_53, X_111_56_t, X_111_56_f, X_111_56, X_111_59, X_111_60, X_111_61, X_111_64, X_111_67, X_111_68, e1, r1_0_3, S_get, Int.toNat_natCast, q0, cb, if_neg hb, c1, cs, q1, pushR_some, pushR_none, fixp_i, fixp_r, natS, natS2]
        rfl
theorem S_sd {d r M i : Nat} {g f : TF} {N : Int} {h : AH} (hd : 5 ≤ d) (hr : r < 6) (hM : M ≤ 8) (hi : i < 14) (hg : ∀ k, k < M → (0 ≤ g (2 * k) ∧ g (2 * k) < 4) ∧ 0 ≤ g (2 * k + 1) ∧ g (2 * k + 1) < 10) (hN : N + 8 ≤ 900000) (e1 : h (22 + 2 * r) 2 = ((2 * M : Nat) : Int)) (e2 : ∀ k, k < 2 * M → h (23 + 2 * r) k = g k) (eR : h 1000 = rgT) (hT : TR h 10 f) (hf : tyOk f N) : ∃ h', (∀ Q, call d 111 [.inr (.inr (some 0)), .inl (i : Int), .inr (.inr (some (22 + 2 * r)))] G1 h Q = Q (some (.inl (bI (sdF g i M 0 f)))) G1 h') ∧ (∀ a, (a < 10 ∨ 16 ≤ a) → h' a = h a) := by
  obtain ⟨d, rfl, hd2⟩ := pos_of hd
  obtain ⟨h', c1, F1⟩ := L_sd (d := d) (r := r) (M := M) (i := i) (g := g) hd2 hr hM hi hg M 0 f N h (by omega) (by omega) e1 e2 eR hT hf
  refine ⟨h', fun Q => ?_, F1⟩
  rw [C_111]
  simp (disch := omega) only [X_111_0, X_111_1, X_111_3, X_111_4, X_111_5, X_111_6, X_111_9_t, X_111_9_f, X_111_9, X_111_12, X_111_13, X_111_16, X_111_17, X_111_18, X_111_21, X_111_24_t, X_111_24_f, X_111_24, X_111_27, X_111_28, X_111_29, X_111_30, X_111_33, X_111_34, X_111_35, X_111_38, X_111_41, X_111_42, X_111_45, X_111_46, X_111_49, X_111_50, X_111_51, X_111_52, X_111_53, X_111_56_t, X_111_56_f, X_111_56, X_111_59, X_111_60, X_111_61, X_111_64, X_111_67, X_111_68, fixp_i, fixp_r]
  exact c1 Q
theorem L_cb {d r M i : Nat} {kd cl : Int} {h : AH} (hd : 3 ≤ d) (hr : r < 6) (hM : M ≤ 8) (hi : i < 14) (h68 : h 68 r = ((2 * M : Nat) : Int)) (hg : ∀ k, k < M → (0 ≤ h 67 (40 * r + 2 * k) ∧ h 67 (40 * r + 2 * k) < 4) ∧ 0 ≤ h 67 (40 * r + (2 * k + 1)) ∧ h 67 (40 * r + (2 * k + 1)) < 10) : ∀ (m j : Nat) (f : TF) (N : Int), j + m = M → N + (m : Int) ≤ 900000 → tyOk f N → ∃ F : TF, (∀ Q, wp d 178 29 [some (.inr (.inr (some 63))), some (.inl (i : Int)), some (.inl kd), some (.inl cl), some (.inl (r : Int)), some (.inl 1), some (.inl ((2 * j : Nat) : Int))] [] G1 (setR h 74 f) Q = Q (some (.inl (bI (sdF (fun k => h 67 (40 * r + k)) i m j f)))) G1 (setR h 74 F)) ∧ ∀ s, 98 ≤ s → F s = f s := by
  have g0 := g1_63
  have g67 := g1_67
  have g68 := g1_68
  have L0 : ∀ (j : Nat) (F : TF) (Q : Option AV → AG → AH → Prop), wp d 178 29 [some (.inr (.inr (some 63))), some (.inl (i : Int)), some (.inl kd), some (.inl cl), some (.inl (r : Int)), some (.inl 0), some (.inl ((2 * j : Nat) : Int))] [] G1 (setR h 74 F) Q = Q (some (.inl 0)) G1 (setR h 74 F) ∨ 10 < j := by
    intro j F Q
    by_cases z : 10 < j
    · exact Or.inr z
    · refine Or.inl ?_
      rw [X_178_29]
      by_cases z1 : j < M
      · simp (disch := omega) only [X_178_0, X_178_1, X_178_3, X_178_4, X_178_7, X_178_8, X_178_11, X_178_12, X_178_13, X_178_14, X_178_15, X_178_16, X_178_17, X_178_20, X_178_22, X_178_23, X_178_24, X_178_25, X_178_26, X_178_27, X_178_31, X_178_32, X_178_35, X_178_37, X_178_38_t, X_178_38_f, X_178_38, X_178_41, X_178_43_t, X_178_43_f, X_178_43, X_178_46, X_178_47, X_178_50, X_178_51, X_178_54, X_178_56, X_178_58, X_178_59, X_178_61, X_178_62, X_178_63, X_178_66_t, X_178_66_f, X_178_66, X_178_69, X_178_70, X_178_73, X_178_74, X_178_76, X_178_78_t, X_178_78_f, X_178_78, X_178_81, X_178_82, X_178_85, X_178_86, X_178_89, X_178_91, X_178_93, X_178_94, X_178_96, X_178_97, X_178_98, X_178_101, X_178_102, X_178_105, X_178_106, X_178_109, X_178_110, X_178_113, X_178_116, X_178_117, X_178_120, X_178_122, X_178_124, X_178_125, X_178_127, X_178_128, X_178_129, X_178_130, X_178_131_t, X_178_131_f, X_178_131, X_178_134, X_178_135, X_178_138, X_178_139, X_178_141, X_178_144, X_178_147, X_178_149, r1_63_5, setR_n, Int.toNat_natCast, h68]
      · simp (disch := omega) only [X_178_0, X_178_1, X_178_3, X_178_4, X_178_7, X_178_8, X_178_11, X_178_12, X_178_13, X_178_14, X_178_15, X_178_16, X_178_17, X_178_20, X_178_22, X_178_23, X_178_24, X_178_25, X_178_26, X_178_27, X_178_31, X_178_32, X_178_35, X_178_37, X_178_38_t, X_178_38_f, X_178_38, X_178_41, X_178_43_t, X_178_43_f, X_178_43, X_178_46, X_178_47, X_178_50, X_178_51, X_178_54, X_178_56, X_178_58, X_178_59, X_178_61, X_178_62, X_178_63, X_178_66_t, X_178_66_f, X_178_66, X_178_69, X_178_70, X_178_73, X_178_74, X_178_76, X_178_78_t, X_178_78_f, X_178_78, X_178_81, X_178_82, X_178_85, X_178_86, X_178_89, X_178_91, X_178_93, X_178_94, X_178_96, X_178_97, X_178_98, X_178_101, X_178_102, X_178_105, X_178_106, X_178_109, X_178_110, X_178_113, X_178_116, X_178_117, X_178_120, X_178_122, X_178_124, X_178_125, X_178_127, X_178_128, X_178_129, X_178_130, X_178_131_t, X_178_131_f, X_178_131, X_178_134, X_178_135, X_178_138, X_178_139, X_178_141, X_178_144, X_178_147, X_178_149, r1_63_5, setR_n, Int.toNat_natCast, h68]
  intro m
  induction m with
  | zero =>
    intro j f N hj hN hf
    obtain rfl : j = M := by omega
    refine ⟨f, fun Q => ?_, fun _ _ => rfl⟩
    rw [X_178_29]
    simp (disch := omega) only [X_178_0, X_178_1, X_178_3, X_178_4, X_178_7, X_178_8, X_178_11, X_178_12, X_178_13, X_178_14, X_178_15, X_178_16, X_178_17, X_178_20, X_178_22, X_178_23, X_178_24, X_178_25, X_178_26, X_178_27, X_178_31, X_178_32, X_178_35, X_178_37, X_178_38_t, X_178_38_f, X_178_38, X_178_41, X_178_43_t, X_178_43_f, X_178_43, X_178_46, X_178_47, X_178_50, X_178_51, X_178_54, X_178_56, X_178_58, X_178_59, X_178_61, X_178_62, X_178_63, X_178_66_t, X_178_66_f, X_178_66, X_178_69, X_178_70, X_178_73, X_178_74, X_178_76, X_178_78_t, X_178_78_f, X_178_78, X_178_81, X_178_82, X_178_85, X_178_86, X_178_89, X_178_91, X_178_93, X_178_94, X_178_96, X_178_97, X_178_98, X_178_101, X_178_102, X_178_105, X_178_106, X_178_109, X_178_110, X_178_113, X_178_116, X_178_117, X_178_120, X_178_122, X_178_124, X_178_125, X_178_127, X_178_128, X_178_129, X_178_130, X_178_131_t, X_178_131_f, X_178_131, X_178_134, X_178_135, X_178_138, X_178_139, X_178_141, X_178_144, X_178_147, X_178_149, r1_63_5, setR_n, Int.toNat_natCast, h68]
    rfl
  | succ m ih =>
    intro j f N hj hN hf
    have gj := hg j (by omega)
    have g2 := gj.1
    have cB : ∀ Q, call d 146 [.inr (.inr (some 74)), .inl (h 67 (40 * r + 2 * j))] G1 (setR h 74 f) Q = if barM f (h 67 (40 * r + 2 * j)) then Q (some (.inl 1)) G1 (setR h 74 f) else Q (some (.inl 0)) G1 (setR h 74 f) := fun Q => by
      rw [S3_isBarred (by omega) (Or.inr rfl) gj.1 (by rw [setR_s]; exact hf.1) (by rw [setR_s]; exact hf.2.2.1), setR_s]
    by_cases hb : barM f (h 67 (40 * r + 2 * j))
    · refine ⟨f, fun Q => ?_, fun _ _ => rfl⟩
      rw [sdF_b (g := fun k => h 67 (40 * r + k)) hb]
      refine Eq.trans ?_ ((L0 (j + 1) f Q).resolve_right (by omega))
      conv => lhs; rw [X_178_29]
      conv => lhs; simp (disch := omega) only [X_178_0, X_178_1, X_178_3, X_178_4, X_178_7, X_178_8, X_178_11, X_178_12, X_178_13, X_178_14, X_178_15, X_178_16, X_178_17, X_178_20, X_178_22, X_178_23, X_178_24, X_178_25, X_178_26, X_178_27, X_178_31, X_178_32, X_178_35, X_178_37, X_178_38_t, X_178_38_f, X_178_38, X_178_41, X_178_43_t, X_178_43_f, X_178_43, X_178_46, X_178_47, X_178_50, X_178_51, X_178_54, X_178_56, X_178_58, X_178_59, X_178_61, X_178_62, X_178_63, X_178_66_t, X_178_66_f, X_178_66, X_178_69, X_178_70, X_178_73, X_178_74, X_178_76, X_178_78_t, X_178_78_f, X_178_78, X_178_81, X_178_82, X_178_85, X_178_86, X_178_89, X_178_91, X_178_93, X_178_94, X_178_96, X_178_97, X_178_98, X_178_101, X_178_102, X_178_105, X_178_106, X_178_109, X_178_110, X_178_113, X_178_116, X_178_117, X_178_120, X_178_122, X_178_124, X_178_125, X_178_127, X_178_128, X_178_129, X_178_130, X_178_131_t, X_178_131_f, X_178_131, X_178_134, X_178_135, X_178_138, X_178_139, X_178_141, X_178_144, X_178_147, X_178_149, r1_63_4, r1_63_5, r1_63_15, setR_n, tn40, Int.toNat_natCast, h68, cB, if_pos hb, pushR_some, fixp_i, natS2]
    · have ty1 := mvF_ty gj.1 hf
      have ck := clF_ok ty1 hi
      have sr := shF_rng ty1 (by omega) ck.1
      have hh : ∀ s, 98 ≤ s → mvF f (h 67 (40 * r + 2 * j)) s = f s := fun s hs => mvF_hi gj.1 hs hf.1
      have cG : ∀ Q, call d 147 [.inr (.inr (some 74)), .inl (h 67 (40 * r + 2 * j))] G1 (setR h 74 f) Q = Q none G1 (setR h 74 (mvF f (h 67 (40 * r + 2 * j)))) := fun Q => by
        rw [S3_goMove (by omega) (Or.inr rfl) gj.1 (by rw [setR_s]; exact hf.1), setR_s, setR_2]
      have cC : ∀ Q, call d 140 [.inr (.inr (some 74)), .inl (i : Int)] G1 (setR h 74 (mvF f (h 67 (40 * r + 2 * j)))) Q = Q (some (.inl (clF (mvF f (h 67 (40 * r + 2 * j))) i : Int))) G1 (setR h 74 (mvF f (h 67 (40 * r + 2 * j)))) := fun Q => by
        have q := S3_cellOf (d := d) (a := 74) (c0 := clF (mvF f (h 67 (40 * r + 2 * j))) i) (h := setR h 74 (mvF f (h 67 (40 * r + 2 * j)))) (Q := Q) (by omega) (Or.inr rfl) ck.1 (by rw [setR_s]; exact ty1.1)
        rw [setR_s, ck.2] at q
        exact q
      have cS : ∀ Q, call d 143 [.inr (.inr (some 74)), .inl (clF (mvF f (h 67 (40 * r + 2 * j))) i : Int)] G1 (setR h 74 (mvF f (h 67 (40 * r + 2 * j)))) Q = Q (some (.inl (shF (mvF f (h 67 (40 * r + 2 * j))) (clF (mvF f (h 67 (40 * r + 2 * j))) i)))) G1 (setR h 74 (mvF f (h 67 (40 * r + 2 * j)))) := fun Q => by
        rw [S3_showsIn (N := N + 1) (by omega) (Or.inr rfl) ck.1 (by rw [setR_s]; exact ty1) (by omega), setR_s]
      by_cases hsh : shF (mvF f (h 67 (40 * r + 2 * j))) (clF (mvF f (h 67 (40 * r + 2 * j))) i) = h 67 (40 * r + (2 * j + 1))
      · obtain ⟨F, c2, F2⟩ := ih (j + 1) (mvF f (h 67 (40 * r + 2 * j))) (N + 1) (by omega) (by omega) ty1
        refine ⟨F, fun Q => ?_, fun s hs => by rw [F2 s hs, hh s hs]⟩
        rw [sdF_y (g := fun k => h 67 (40 * r + k)) hb hsh]
        refine Eq.trans ?_ (c2 Q)
        conv => lhs; rw [X_178_29]
        conv => lhs; simp (disch := omega) only [X_178_0, X_178_1, X_178_3, X_178_4, X_178_7, X_178_8, X_178_11, X_178_12, X_178_13, X_178_14, X_178_15, X_178_16, X_178_17, X_178_20, X_178_22, X_178_23, X_178_24, X_178_25, X_178_26, X_178_27, X_178_31, X_178_32, X_178_35, X_178_37, X_178_38_t, X_178_38_f, X_178_38, X_178_41, X_178_43_t, X_178_43_f, X_178_43, X_178_46, X_178_47, X_178_50, X_178_51, X_178_54, X_178_56, X_178_58, X_178_59, X_178_61, X_178_62, X_178_63, X_178_66_t, X_178_66_f, X_178_66, X_178_69, X_178_70, X_178_73, X_178_74, X_178_76, X_178_78_t, X_178_78_f, X_178_78, X_178_81, X_178_82, X_178_85, X_178_86, X_178_89, X_178_91, X_178_93, X_178_94, X_178_96, X_178_97, X_178_98, X_178_101, X_178_102, X_178_105, X_178_106, X_178_109, X_178_110, X_178_113, X_178_116, X_178_117, X_178_120, X_178_122, X_178_124, X_178_125, X_178_127, X_178_128, X_178_129, X_178_130, X_178_131_t, X_178_131_f, X_178_131, X_178_134, X_178_135, X_178_138, X_178_139, X_178_141, X_178_144, X_178_147, X_178_149, r1_63_4, r1_63_5, r1_63_15, setR_n, tn40, tn40c, Int.toNat_natCast, h68, cB, if_neg hb, cG, cC, cS, pushR_some, pushR_none, fixp_i, natS2]
      · refine ⟨mvF f (h 67 (40 * r + 2 * j)), fun Q => ?_, hh⟩
        rw [sdF_n (g := fun k => h 67 (40 * r + k)) hb hsh]
        refine Eq.trans ?_ ((L0 (j + 1) (mvF f (h 67 (40 * r + 2 * j))) Q).resolve_right (by omega))
        conv => lhs; rw [X_178_29]
        conv => lhs; simp (disch := omega) only [X_178_0, X_178_1, X_178_3, X_178_4, X_178_7, X_178_8, X_178_11, X_178_12, X_178_13, X_178_14, X_178_15, X_178_16, X_178_17, X_178_20, X_178_22, X_178_23, X_178_24, X_178_25, X_178_26, X_178_27, X_178_31, X_178_32, X_178_35, X_178_37, X_178_38_t, X_178_38_f, X_178_38, X_178_41, X_178_43_t, X_178_43_f, X_178_43, X_178_46, X_178_47, X_178_50, X_178_51, X_178_54, X_178_56, X_178_58, X_178_59, X_178_61, X_178_62, X_178_63, X_178_66_t, X_178_66_f, X_178_66, X_178_69, X_178_70, X_178_73, X_178_74, X_178_76, X_178_78_t, X_178_78_f, X_178_78, X_178_81, X_178_82, X_178_85, X_178_86, X_178_89, X_178_91, X_178_93, X_178_94, X_178_96, X_178_97, X_178_98, X_178_101, X_178_102, X_178_105, X_178_106, X_178_109, X_178_110, X_178_113, X_178_116, X_178_117, X_178_120, X_178_122, X_178_124, X_178_125, X_178_127, X_178_128, X_178_129, X_178_130, X_178_131_t, X_178_131_f, X_178_131, X_178_134, X_178_135, X_178_138, X_178_139, X_178_141, X_178_144, X_178_147, X_178_149, r1_63_4, r1_63_5, r1_63_15, setR_n, tn40, tn40c, Int.toNat_natCast, h68, cB, if_neg hb, cG, cC, cS, pushR_some, pushR_none, fixp_i, natS2]
/-- a bead is taken for another one -/
def asF (f : TF) (i : Nat) (kd cl : Int) : TF := putR (putR f i kd) (14 + i) cl
theorem asF_ty {f : TF} {i : Nat} {kd cl N : Int} (hi : i < 14) (hk : 0 ≤ kd ∧ kd ≤ 5) (hc : 0 ≤ cl ∧ cl ≤ 9) (hf : tyOk f N) : tyOk (asF f i kd cl) N := by
  obtain ⟨a1, a2, a3, a4, a5, a6, a7⟩ := hf
  have e69 : ∀ s, 28 ≤ s → asF f i kd cl s = f s := fun s hs => by unfold asF; rw [putR_n (by omega), putR_n (by omega)]
  refine ⟨⟨fun c h => by rw [e69 _ (by omega)]; exact a1.1 c h, fun c h e h2 q => by rw [e69 _ (by omega), e69 _ (by omega)] at q; exact a1.2 c h e h2 q⟩, fun k h => by obtain ⟨c, c1, c2⟩ := a2 k h; exact ⟨c, c1, by rw [e69 _ (by omega)]; exact c2⟩, fun k h => ?_, fun k h => ?_, fun k h => by rw [e69 _ (by omega), e69 _ (by omega)]; exact a5 k h, by rw [e69 _ (by omega)]; exact a6, by rw [e69 _ (by omega)]; exact a7⟩
  · unfold asF
    rw [putR_n (by omega)]
    by_cases e : k = i
    · subst e; rw [putR_s]; exact hk
    · rw [putR_n e]; exact a3 k h
  · unfold asF
    by_cases e : k = i
    · subst e; rw [putR_s]; exact hc
    · rw [putR_n (by omega), putR_n (by omega)]; exact a4 k h
theorem asF_k {f : TF} {i : Nat} {kd : Int} : asF f i kd (f (14 + i)) = putR f i kd := by
  funext s
  unfold asF
  by_cases e : s = 14 + i
  · subst e; rw [putR_s, putR_n (by omega)]
  · rw [putR_n e]
theorem asF_c {f : TF} {i : Nat} {cl : Int} : asF f i (f i) cl = putR f (14 + i) cl := by
  have : putR f i (f i) = f := by
    funext s
    by_cases e : s = i
    · subst e; rw [putR_s]
    · rw [putR_n e]
  unfold asF
  rw [this]
theorem S3_canBe {d r M i : Nat} {kd cl N : Int} {h : AH} {F0 : TF} (hd : 4 ≤ d) (hr : r < 6) (hM : M ≤ 8) (hi : i < 14) (h68 : h 68 r = ((2 * M : Nat) : Int)) (hg : ∀ k, k < M → (0 ≤ h 67 (40 * r + 2 * k) ∧ h 67 (40 * r + 2 * k) < 4) ∧ 0 ≤ h 67 (40 * r + (2 * k + 1)) ∧ h 67 (40 * r + (2 * k + 1)) < 10) (hN : N + 8 ≤ 900000) (hf : tyOk (h 64) N) (hk : 0 ≤ kd ∧ kd ≤ 5) (hc : 0 ≤ cl ∧ cl ≤ 9) (hz : ∀ s, 98 ≤ s → F0 s = h 64 s) : ∃ F : TF, (∀ Q, call d 178 [.inr (.inr (some 63)), .inl (i : Int), .inl kd, .inl cl, .inl (r : Int)] G1 (setR h 74 F0) Q = Q (some (.inl (bI (sdF (fun k => h 67 (40 * r + k)) i M 0 (asF (h 64) i kd cl))))) G1 (setR h 74 F)) ∧ ∀ s, 98 ≤ s → F s = h 64 s := by
  obtain ⟨d, rfl, hd2⟩ := pos_of hd
  have g0 := g1_63
  have g74 := g1_74
  have cH : ∀ Q, call d 164 [.inr (.inr (some 63))] G1 (setR h 74 F0) Q = Q none G1 (setR h 74 (h 64)) := fun Q => by
    rw [S3_layHand (by omega) (fun s hs => by rw [setR_s, setR_n (by omega)]; exact hz s hs), setR_n (by omega), setR_2]
  have e0 : ((0 : Int) + (i : Int)).toNat = i := by omega
  have e14 : ((14 : Int) + (i : Int)).toNat = 14 + i := by omega
  obtain ⟨F, c1, F1⟩ := L_cb (d := d) (r := r) (M := M) (i := i) (kd := kd) (cl := cl) (h := h) hd2 hr hM hi h68 hg M 0 (asF (h 64) i kd cl) N (by omega) (by omega) (asF_ty hi hk hc hf)
  refine ⟨F, fun Q => ?_, fun s hs => by rw [F1 s hs]; unfold asF; rw [putR_n (by omega), putR_n (by omega)]⟩
  rw [C_178]
  simp (disch := omega) only [X_178_0, X_178_1, X_178_3, X_178_4, X_178_7, X_178_8, X_178_11, X_178_12, X_178_13, X_178_14, X_178_15, X_178_16, X_178_17, X_178_20, X_178_22, X_178_23, X_178_24, X_178_25, X_178_26, X_178_27, X_178_31, X_178_32, X_178_35, X_178_37, X_178_38_t, X_178_38_f, X_178_38, X_178_41, X_178_43_t, X_178_43_f, X_178_43, X_178_46, X_178_47, X_178_50, X_178_51, X_178_54, X_178_56, X_178_58, X_178_59, X_178_61, X_178_62, X_178_63, X_178_66_t, X_178_66_f, X_178_66, X_178_69, X_178_70, X_178_73, X_178_74, X_178_76, X_178_78_t, X_178_78_f, X_178_78, X_178_81, X_178_82, X_178_85, X_178_86, X_178_89, X_178_91, X_178_93, X_178_94, X_178_96, X_178_97, X_178_98, X_178_101, X_178_102, X_178_105, X_178_106, X_178_109, X_178_110, X_178_113, X_178_116, X_178_117, X_178_120, X_178_122, X_178_124, X_178_125, X_178_127, X_178_128, X_178_129, X_178_130, X_178_131_t, X_178_131_f, X_178_131, X_178_134, X_178_135, X_178_138, X_178_139, X_178_141, X_178_144, X_178_147, X_178_149, cH, r1_63_15, e0, e14, put_set, setR_s, setR_2, pushR_none, fixp_i, fixp_n]
  exact c1 Q
