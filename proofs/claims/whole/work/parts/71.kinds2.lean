/-! 71: kinds, colours -/
theorem tz0 {i : Nat} : ((0 : Int) + (i : Int)).toNat = i := by omega
theorem tz14 {i : Nat} : ((14 : Int) + (i : Int)).toNat = 14 + i := by omega
theorem kd_ty {f : TF} {i : Nat} {kd N : Int} (hi : i < 14) (hk : 0 ≤ kd ∧ kd ≤ 5) (hf : tyOk f N) : tyOk (putR f i kd) N := by
  rw [← asF_k]
  exact asF_ty hi hk (hf.2.2.2.1 i hi) hf
theorem cl_ty {f : TF} {i : Nat} {cl N : Int} (hi : i < 14) (hk : 0 ≤ cl ∧ cl ≤ 9) (hf : tyOk f N) : tyOk (putR f (14 + i) cl) N := by
  rw [← asF_c]
  exact asF_ty hi (hf.2.2.1 i hi) hk hf

theorem L_ktf {d r M i : Nat}  {g f : TF} {N : Int} (hd : 5 ≤ d) (hr : r < 6) (hM : M ≤ 8) (hi : i < 14) (hg : ∀ k, k < M → (0 ≤ g (2 * k) ∧ g (2 * k) < 4) ∧ 0 ≤ g (2 * k + 1) ∧ g (2 * k + 1) < 10) (hN : N + 8 ≤ 900000) (hf : tyOk f N) : ∀ (n k : Nat) (a : Int) (h : AH), k + n = 6 → h (22 + 2 * r) 2 = ((2 * M : Nat) : Int) → (∀ k, k < 2 * M → h (23 + 2 * r) k = g k) → h 1000 = rgT → TR h 3 f → h 3 8 = 1 → ∃ h', (∀ Q, wp d 110 5 [some (.inr (.inr (some 0))), some (.inl (i : Int)), some (.inr (.inr (some (22 + 2 * r)))), some (.inl a), some (.inl (k : Int))] [] G1 h Q = Q (some (.inl (bts (fun k => sdF g i M 0 (putR f i (k : Int))) n k a))) G1 h') ∧ (∀ a, (a < 10 ∨ 16 ≤ a) → h' a = h a) := by
  have g0 := g1_0
  have g1 := g1_1
  have hR := rows_r hr
  have hw := hR.2
  have hs := rw_s hw
  have t3 : isToy 3 := Or.inl rfl
  have t10 : isToy 10 := Or.inr (Or.inl rfl)
  have s10 := toy_s t10
  intro n
  induction n with
  | zero =>
    intro k a h hk e1 e2 eR T3 e8
    obtain rfl : k = 6 := by omega
    refine ⟨h, fun Q => ?_, fun _ _ => rfl⟩
    simp (disch := omega) only [X_110_5, X_110_0, X_110_1, X_110_2, X_110_3, X_110_7, X_110_9_t, X_110_9_f, X_110_9, X_110_12, X_110_13, X_110_16, X_110_17, X_110_20, X_110_23, X_110_24, X_110_27, X_110_28, X_110_30, X_110_33, X_110_34, X_110_35, X_110_36, X_110_39_t, X_110_39_f, X_110_39, X_110_42, X_110_43, X_110_44, X_110_46, X_110_47, X_110_48, X_110_49, X_110_52, X_110_55, X_110_56, bts]
  | succ n ih =>
    intro k a h hk e1 e2 eR T3 e8
    obtain ⟨ha, cA, TA, FA, A8, A9⟩ := S_takeBeads (d := d) (t := 10) (u := 3) (h := h) (f := f) (by omega) t10 t3 (by omega) T3 (Or.inr e8) hf.1
    have cK : ∀ Q, call d 14 [.inr (.inr (some 10)), .inl (i : Int), .inl (k : Int)] G1 ha Q = Q none G1 (put ha 11 i (k : Int)) := fun Q => S_setKind (by omega) t10 hi
    have TB : TR (put ha 11 i (k : Int)) 10 (putR f i (k : Int)) := TR_kind TA hi
    have fb : ∀ a, (a < 10 ∨ 16 ≤ a) → put ha 11 i (k : Int) a = h a := fun a z => by rw [put_row (by omega), FA a (by omega)]
    generalize put ha 11 i (k : Int) = hb at cK TB fb
    obtain ⟨hc, cS, FS⟩ := S_sd (d := d) (r := r) (M := M) (i := i) (g := g) (f := putR f i (k : Int)) (N := N) (h := hb) hd hr hM hi hg hN (by rw [fb _ (by omega), e1]) (fun k hk => by rw [fb _ (by omega), e2 k hk]) (by rw [fb _ (by omega), eR]) TB (kd_ty hi (by omega) hf)
    have fc : ∀ a, (a < 10 ∨ 16 ≤ a) → hc a = h a := fun a z => by rw [FS a z, fb a z]
    have T3c : TR hc 3 f := TR_keep T3 (fc _ (by omega)) (fc _ (by omega)) (fc _ (by omega)) (fc _ (by omega)) (fc _ (by omega)) (by rw [fc _ (by omega)])
    have nx := fun a => ih (k + 1) a hc (by omega) (by rw [fc _ (by omega), e1]) (fun k hk => by rw [fc _ (by omega), e2 k hk]) (by rw [fc _ (by omega), eR]) T3c (by rw [fc _ (by omega), e8])
    by_cases hp : sdF g i M 0 (putR f i (k : Int)) = true
    · obtain ⟨h', c3, F3⟩ := nx (bOr a (bShl 1 (k : Int)))
      refine ⟨h', fun Q => ?_, fun a ha => by rw [F3 a ha, fc a ha]⟩
      rw [bts_t (P := fun k => sdF g i M 0 (putR f i (k : Int))) hp]
      rw [hp] at cS
      refine Eq.trans ?_ (c3 Q)
      conv => lhs; rw [X_110_5]
      conv => lhs; simp (disch := omega) only [X_110_0, X_110_1, X_110_2, X_110_3, X_110_7, X_110_9_t, X_110_9_f, X_110_9, X_110_12, X_110_13, X_110_16, X_110_17, X_110_20, X_110_23, X_110_24, X_110_27, X_110_28, X_110_30, X_110_33, X_110_34, X_110_35, X_110_36, X_110_39_t, X_110_39_f, X_110_39, X_110_42, X_110_43, X_110_44, X_110_46, X_110_47, X_110_48, X_110_49, X_110_52, X_110_55, X_110_56, r1_0_3, r1_0_2, r1_0_0, Int.toNat_natCast, hR.1, cA, cK, cS, bI, pushR_some, pushR_none, fixp_i, fixp_r, natS]
    · obtain ⟨h', c3, F3⟩ := nx a
      refine ⟨h', fun Q => ?_, fun a ha => by rw [F3 a ha, fc a ha]⟩
      have hp2 := Bool.eq_false_iff.mpr hp
      rw [bts_f (P := fun k => sdF g i M 0 (putR f i (k : Int))) hp2]
      rw [hp2] at cS
      refine Eq.trans ?_ (c3 Q)
      conv => lhs; rw [X_110_5]
      conv => lhs; simp (disch := omega) only [X_110_0, X_110_1, X_110_2, X_110_3, X_110_7, X_110_9_t, X_110_9_f, X_110_9, X_110_12, X_110_13, X_110_16, X_110_17, X_110_20, X_110_23, X_110_24, X_110_27, X_110_28, X_110_30, X_110_33, X_110_34, X_110_35, X_110_36, X_110_39_t, X_110_39_f, X_110_39, X_110_42, X_110_43, X_110_44, X_110_46, X_110_47, X_110_48, X_110_49, X_110_52, X_110_55, X_110_56, r1_0_3, r1_0_2, r1_0_0, Int.toNat_natCast, hR.1, cA, cK, cS, bI, pushR_some, pushR_none, fixp_i, fixp_r, natS]

theorem L_colours {d r M i : Nat} {s : Int} {g f : TF} {N : Int} (hd : 5 ≤ d) (hr : r < 6) (hM : M ≤ 8) (hi : i < 14) (hg : ∀ k, k < M → (0 ≤ g (2 * k) ∧ g (2 * k) < 4) ∧ 0 ≤ g (2 * k + 1) ∧ g (2 * k + 1) < 10) (hN : N + 8 ≤ 900000) (hf : tyOk f N) : ∀ (n k : Nat) (a : Int) (h : AH), k + n = 10 → h (22 + 2 * r) 2 = ((2 * M : Nat) : Int) → (∀ k, k < 2 * M → h (23 + 2 * r) k = g k) → h 1000 = rgT → TR h 3 f → h 3 8 = 1 → ∃ h', (∀ Q, wp d 64 19 [some (.inr (.inr (some 0))), some (.inl (i : Int)), some (.inl (r : Int)), some (.inl s), some (.inl a), some (.inl (k : Int))] [] G1 h Q = Q (some (.inl (bts (fun k => sdF g i M 0 (putR f (14 + i) (k : Int))) n k a))) G1 h') ∧ (∀ a, (a < 10 ∨ 16 ≤ a) → h' a = h a) := by
  have g0 := g1_0
  have g1 := g1_1
  have hR := rows_r hr
  have hw := hR.2
  have hs := rw_s hw
  have t3 : isToy 3 := Or.inl rfl
  have t10 : isToy 10 := Or.inr (Or.inl rfl)
  have s10 := toy_s t10
  intro n
  induction n with
  | zero =>
    intro k a h hk e1 e2 eR T3 e8
    obtain rfl : k = 10 := by omega
    refine ⟨h, fun Q => ?_, fun _ _ => rfl⟩
    simp (disch := omega) only [X_64_19, X_64_0, X_64_1, X_64_2, X_64_3, X_64_6, X_64_7, X_64_8_t, X_64_8_f, X_64_8, X_64_11, X_64_12, X_64_13, X_64_14, X_64_16, X_64_17, X_64_21, X_64_23_t, X_64_23_f, X_64_23, X_64_26, X_64_27, X_64_30, X_64_31, X_64_34, X_64_37, X_64_38, X_64_41, X_64_42, X_64_44, X_64_47, X_64_48, X_64_49, X_64_50, X_64_53, X_64_54, X_64_55, X_64_58_t, X_64_58_f, X_64_58, X_64_61, X_64_63, X_64_64, X_64_66, X_64_67, X_64_68, X_64_70, X_64_73, X_64_76, X_64_78, bts]
  | succ n ih =>
    intro k a h hk e1 e2 eR T3 e8
    obtain ⟨ha, cA, TA, FA, A8, A9⟩ := S_takeBeads (d := d) (t := 10) (u := 3) (h := h) (f := f) (by omega) t10 t3 (by omega) T3 (Or.inr e8) hf.1
    have cK : ∀ Q, call d 15 [.inr (.inr (some 10)), .inl (i : Int), .inl (k : Int)] G1 ha Q = Q none G1 (put ha 12 i (k : Int)) := fun Q => S_setColour (by omega) t10 hi
    have TB : TR (put ha 12 i (k : Int)) 10 (putR f (14 + i) (k : Int)) := TR_colour TA hi
    have fb : ∀ a, (a < 10 ∨ 16 ≤ a) → put ha 12 i (k : Int) a = h a := fun a z => by rw [put_row (by omega), FA a (by omega)]
    generalize put ha 12 i (k : Int) = hb at cK TB fb
    obtain ⟨hc, cS, FS⟩ := S_sd (d := d) (r := r) (M := M) (i := i) (g := g) (f := putR f (14 + i) (k : Int)) (N := N) (h := hb) hd hr hM hi hg hN (by rw [fb _ (by omega), e1]) (fun k hk => by rw [fb _ (by omega), e2 k hk]) (by rw [fb _ (by omega), eR]) TB (cl_ty hi (by omega) hf)
    have fc : ∀ a, (a < 10 ∨ 16 ≤ a) → hc a = h a := fun a z => by rw [FS a z, fb a z]
    have T3c : TR hc 3 f := TR_keep T3 (fc _ (by omega)) (fc _ (by omega)) (fc _ (by omega)) (fc _ (by omega)) (fc _ (by omega)) (by rw [fc _ (by omega)])
    have nx := fun a => ih (k + 1) a hc (by omega) (by rw [fc _ (by omega), e1]) (fun k hk => by rw [fc _ (by omega), e2 k hk]) (by rw [fc _ (by omega), eR]) T3c (by rw [fc _ (by omega), e8])
    by_cases hp : sdF g i M 0 (putR f (14 + i) (k : Int)) = true
    · obtain ⟨h', c3, F3⟩ := nx (bOr a (bShl 1 (k : Int)))
      refine ⟨h', fun Q => ?_, fun a ha => by rw [F3 a ha, fc a ha]⟩
      rw [bts_t (P := fun k => sdF g i M 0 (putR f (14 + i) (k : Int))) hp]
      rw [hp] at cS
      refine Eq.trans ?_ (c3 Q)
      conv => lhs; rw [X_64_19]
      conv => lhs; simp (disch := omega) only [X_64_0, X_64_1, X_64_2, X_64_3, X_64_6, X_64_7, X_64_8_t, X_64_8_f, X_64_8, X_64_11, X_64_12, X_64_13, X_64_14, X_64_16, X_64_17, X_64_21, X_64_23_t, X_64_23_f, X_64_23, X_64_26, X_64_27, X_64_30, X_64_31, X_64_34, X_64_37, X_64_38, X_64_41, X_64_42, X_64_44, X_64_47, X_64_48, X_64_49, X_64_50, X_64_53, X_64_54, X_64_55, X_64_58_t, X_64_58_f, X_64_58, X_64_61, X_64_63, X_64_64, X_64_66, X_64_67, X_64_68, X_64_70, X_64_73, X_64_76, X_64_78, r1_0_3, r1_0_2, r1_0_0, Int.toNat_natCast, hR.1, cA, cK, cS, bI, pushR_some, pushR_none, fixp_i, fixp_r, natS]
    · obtain ⟨h', c3, F3⟩ := nx a
      refine ⟨h', fun Q => ?_, fun a ha => by rw [F3 a ha, fc a ha]⟩
      have hp2 := Bool.eq_false_iff.mpr hp
      rw [bts_f (P := fun k => sdF g i M 0 (putR f (14 + i) (k : Int))) hp2]
      rw [hp2] at cS
      refine Eq.trans ?_ (c3 Q)
      conv => lhs; rw [X_64_19]
      conv => lhs; simp (disch := omega) only [X_64_0, X_64_1, X_64_2, X_64_3, X_64_6, X_64_7, X_64_8_t, X_64_8_f, X_64_8, X_64_11, X_64_12, X_64_13, X_64_14, X_64_16, X_64_17, X_64_21, X_64_23_t, X_64_23_f, X_64_23, X_64_26, X_64_27, X_64_30, X_64_31, X_64_34, X_64_37, X_64_38, X_64_41, X_64_42, X_64_44, X_64_47, X_64_48, X_64_49, X_64_50, X_64_53, X_64_54, X_64_55, X_64_58_t, X_64_58_f, X_64_58, X_64_61, X_64_63, X_64_64, X_64_66, X_64_67, X_64_68, X_64_70, X_64_73, X_64_76, X_64_78, r1_0_3, r1_0_2, r1_0_0, Int.toNat_natCast, hR.1, cA, cK, cS, bI, pushR_some, pushR_none, fixp_i, fixp_r, natS]

theorem M_kb {d r M i : Nat}  {N : Int} {h : AH} (hd : 4 ≤ d) (hr : r < 6) (hM : M ≤ 8) (hi : i < 14) (h68 : h 68 r = ((2 * M : Nat) : Int)) (hg : ∀ k, k < M → (0 ≤ h 67 (40 * r + 2 * k) ∧ h 67 (40 * r + 2 * k) < 4) ∧ 0 ≤ h 67 (40 * r + (2 * k + 1)) ∧ h 67 (40 * r + (2 * k + 1)) < 10) (hN : N + 8 ≤ 900000) (hf : tyOk (h 64) N) : ∀ (n k : Nat) (a : Int) (F : TF), k + n = 6 → (-2147483648 ≤ a ∧ a < 2147483648) → (∀ s, 98 ≤ s → F s = h 64 s) → ∃ F' : TF, (∀ Q, wp d 179 5 [some (.inr (.inr (some 63))), some (.inl (i : Int)), some (.inl (r : Int)), some (.inl a), some (.inl (k : Int))] [] G1 (setR h 74 F) Q = Q (some (.inl (bts (fun k => sdF (fun k => h 67 (40 * r + k)) i M 0 (putR (h 64) i (k : Int))) n k a))) G1 (setR h 74 F')) ∧ ∀ s, 98 ≤ s → F' s = h 64 s := by
  have g0 := g1_63
  have g64 := g1_64
  intro n
  induction n with
  | zero =>
    intro k a F hk ha hF
    obtain rfl : k = 6 := by omega
    refine ⟨F, fun Q => ?_, hF⟩
    simp (disch := omega) only [X_179_5, X_179_0, X_179_1, X_179_2, X_179_3, X_179_7, X_179_9_t, X_179_9_f, X_179_9, X_179_12, X_179_13, X_179_14, X_179_15, X_179_17, X_179_18, X_179_21, X_179_23, X_179_24, X_179_25, X_179_26, X_179_27, X_179_30_t, X_179_30_f, X_179_30, X_179_33, X_179_34, X_179_36, X_179_37, X_179_40, X_179_41, X_179_42, X_179_43, X_179_46, X_179_49, X_179_50, bts]
  | succ n ih =>
    intro k a F hk ha hF
    have b1 := hf.2.2.1 i hi
    have b2 := hf.2.2.2.1 i hi
    obtain ⟨F1, cC, hF1⟩ := S3_canBe (d := d) (r := r) (M := M) (i := i) (kd := (k : Int)) (cl := h 64 (14 + i)) (N := N) (h := h) (F0 := F) hd hr hM hi h68 hg hN hf (by omega) (by omega) hF
    rw [asF_k] at cC
    by_cases hp : sdF (fun k => h 67 (40 * r + k)) i M 0 (putR (h 64) i (k : Int)) = true
    · obtain ⟨F', c3, F3⟩ := ih (k + 1) (bOr a (bShl 1 (k : Int))) F1 (by omega) bOr_b hF1
      refine ⟨F', fun Q => ?_, F3⟩
      rw [bts_t (P := fun k => sdF (fun k => h 67 (40 * r + k)) i M 0 (putR (h 64) i (k : Int))) hp]
      rw [hp] at cC
      refine Eq.trans ?_ (c3 Q)
      conv => lhs; rw [X_179_5]
      conv => lhs; simp (disch := omega) only [X_179_0, X_179_1, X_179_2, X_179_3, X_179_7, X_179_9_t, X_179_9_f, X_179_9, X_179_12, X_179_13, X_179_14, X_179_15, X_179_17, X_179_18, X_179_21, X_179_23, X_179_24, X_179_25, X_179_26, X_179_27, X_179_30_t, X_179_30_f, X_179_30, X_179_33, X_179_34, X_179_36, X_179_37, X_179_40, X_179_41, X_179_42, X_179_43, X_179_46, X_179_49, X_179_50, r1_63_0, tz0, tz14, setR_n, cC, bI, pushR_some, fixp_i, natS]
    · obtain ⟨F', c3, F3⟩ := ih (k + 1) a F1 (by omega) ha hF1
      refine ⟨F', fun Q => ?_, F3⟩
      have hp2 := Bool.eq_false_iff.mpr hp
      rw [bts_f (P := fun k => sdF (fun k => h 67 (40 * r + k)) i M 0 (putR (h 64) i (k : Int))) hp2]
      rw [hp2] at cC
      refine Eq.trans ?_ (c3 Q)
      conv => lhs; rw [X_179_5]
      conv => lhs; simp (disch := omega) only [X_179_0, X_179_1, X_179_2, X_179_3, X_179_7, X_179_9_t, X_179_9_f, X_179_9, X_179_12, X_179_13, X_179_14, X_179_15, X_179_17, X_179_18, X_179_21, X_179_23, X_179_24, X_179_25, X_179_26, X_179_27, X_179_30_t, X_179_30_f, X_179_30, X_179_33, X_179_34, X_179_36, X_179_37, X_179_40, X_179_41, X_179_42, X_179_43, X_179_46, X_179_49, X_179_50, r1_63_0, tz0, tz14, setR_n, cC, bI, bOr_0, pushR_some, fixp_i, natS]

theorem M_colours {d r M i : Nat} {s : Int} {N : Int} {h : AH} (hd : 4 ≤ d) (hr : r < 6) (hM : M ≤ 8) (hi : i < 14) (h68 : h 68 r = ((2 * M : Nat) : Int)) (hg : ∀ k, k < M → (0 ≤ h 67 (40 * r + 2 * k) ∧ h 67 (40 * r + 2 * k) < 4) ∧ 0 ≤ h 67 (40 * r + (2 * k + 1)) ∧ h 67 (40 * r + (2 * k + 1)) < 10) (hN : N + 8 ≤ 900000) (hf : tyOk (h 64) N) : ∀ (n k : Nat) (a : Int) (F : TF), k + n = 10 → (-2147483648 ≤ a ∧ a < 2147483648) → (∀ s, 98 ≤ s → F s = h 64 s) → ∃ F' : TF, (∀ Q, wp d 181 36 [some (.inr (.inr (some 63))), some (.inl (i : Int)), some (.inl (r : Int)), some (.inl s), some (.inl a), some (.inl (k : Int))] [] G1 (setR h 74 F) Q = Q (some (.inl (bts (fun k => sdF (fun k => h 67 (40 * r + k)) i M 0 (putR (h 64) (14 + i) (k : Int))) n k a))) G1 (setR h 74 F')) ∧ ∀ s, 98 ≤ s → F' s = h 64 s := by
  have g0 := g1_63
  have g64 := g1_64
  intro n
  induction n with
  | zero =>
    intro k a F hk ha hF
    obtain rfl : k = 10 := by omega
    refine ⟨F, fun Q => ?_, hF⟩
    simp (disch := omega) only [X_181_36, X_181_0, X_181_1, X_181_2, X_181_5_t, X_181_5_f, X_181_5, X_181_8, X_181_9, X_181_12_t, X_181_12_f, X_181_12, X_181_15, X_181_16, X_181_17, X_181_18, X_181_19, X_181_22, X_181_23, X_181_24, X_181_25_t, X_181_25_f, X_181_25, X_181_28, X_181_29, X_181_30, X_181_31, X_181_33, X_181_34, X_181_38, X_181_40_t, X_181_40_f, X_181_40, X_181_43, X_181_45, X_181_46, X_181_47, X_181_48, X_181_51, X_181_52, X_181_53, X_181_54, X_181_55, X_181_57, X_181_58, X_181_61_t, X_181_61_f, X_181_61, X_181_64, X_181_65, X_181_67, X_181_68, X_181_71, X_181_72, X_181_73, X_181_75, X_181_78, X_181_81, X_181_83, bts]
  | succ n ih =>
    intro k a F hk ha hF
    have b1 := hf.2.2.1 i hi
    have b2 := hf.2.2.2.1 i hi
    obtain ⟨F1, cC, hF1⟩ := S3_canBe (d := d) (r := r) (M := M) (i := i) (kd := h 64 i) (cl := (k : Int)) (N := N) (h := h) (F0 := F) hd hr hM hi h68 hg hN hf (by omega) (by omega) hF
    rw [asF_c] at cC
    by_cases hp : sdF (fun k => h 67 (40 * r + k)) i M 0 (putR (h 64) (14 + i) (k : Int)) = true
    · obtain ⟨F', c3, F3⟩ := ih (k + 1) (bOr a (bShl 1 (k : Int))) F1 (by omega) bOr_b hF1
      refine ⟨F', fun Q => ?_, F3⟩
      rw [bts_t (P := fun k => sdF (fun k => h 67 (40 * r + k)) i M 0 (putR (h 64) (14 + i) (k : Int))) hp]
      rw [hp] at cC
      refine Eq.trans ?_ (c3 Q)
      conv => lhs; rw [X_181_36]
      conv => lhs; simp (disch := omega) only [X_181_0, X_181_1, X_181_2, X_181_5_t, X_181_5_f, X_181_5, X_181_8, X_181_9, X_181_12_t, X_181_12_f, X_181_12, X_181_15, X_181_16, X_181_17, X_181_18, X_181_19, X_181_22, X_181_23, X_181_24, X_181_25_t, X_181_25_f, X_181_25, X_181_28, X_181_29, X_181_30, X_181_31, X_181_33, X_181_34, X_181_38, X_181_40_t, X_181_40_f, X_181_40, X_181_43, X_181_45, X_181_46, X_181_47, X_181_48, X_181_51, X_181_52, X_181_53, X_181_54, X_181_55, X_181_57, X_181_58, X_181_61_t, X_181_61_f, X_181_61, X_181_64, X_181_65, X_181_67, X_181_68, X_181_71, X_181_72, X_181_73, X_181_75, X_181_78, X_181_81, X_181_83, r1_63_0, tz0, tz14, setR_n, cC, bI, pushR_some, fixp_i, natS]
    · obtain ⟨F', c3, F3⟩ := ih (k + 1) a F1 (by omega) ha hF1
      refine ⟨F', fun Q => ?_, F3⟩
      have hp2 := Bool.eq_false_iff.mpr hp
      rw [bts_f (P := fun k => sdF (fun k => h 67 (40 * r + k)) i M 0 (putR (h 64) (14 + i) (k : Int))) hp2]
      rw [hp2] at cC
      refine Eq.trans ?_ (c3 Q)
      conv => lhs; rw [X_181_36]
      conv => lhs; simp (disch := omega) only [X_181_0, X_181_1, X_181_2, X_181_5_t, X_181_5_f, X_181_5, X_181_8, X_181_9, X_181_12_t, X_181_12_f, X_181_12, X_181_15, X_181_16, X_181_17, X_181_18, X_181_19, X_181_22, X_181_23, X_181_24, X_181_25_t, X_181_25_f, X_181_25, X_181_28, X_181_29, X_181_30, X_181_31, X_181_33, X_181_34, X_181_38, X_181_40_t, X_181_40_f, X_181_40, X_181_43, X_181_45, X_181_46, X_181_47, X_181_48, X_181_51, X_181_52, X_181_53, X_181_54, X_181_55, X_181_57, X_181_58, X_181_61_t, X_181_61_f, X_181_61, X_181_64, X_181_65, X_181_67, X_181_68, X_181_71, X_181_72, X_181_73, X_181_75, X_181_78, X_181_81, X_181_83, r1_63_0, tz0, tz14, setR_n, cC, bI, bOr_0, pushR_some, fixp_i, natS]

theorem S_ktf {d r M i : Nat} {g f : TF} {N : Int} {h : AH} (hd : 6 ≤ d) (hr : r < 6) (hM : M ≤ 8) (hi : i < 14) (hg : ∀ k, k < M → (0 ≤ g (2 * k) ∧ g (2 * k) < 4) ∧ 0 ≤ g (2 * k + 1) ∧ g (2 * k + 1) < 10) (hN : N + 8 ≤ 900000) (hf : tyOk f N) (e1 : h (22 + 2 * r) 2 = ((2 * M : Nat) : Int)) (e2 : ∀ k, k < 2 * M → h (23 + 2 * r) k = g k) (eR : h 1000 = rgT) (T3 : TR h 3 f) (e8 : h 3 8 = 1) : ∃ h', (∀ Q, call d 110 [.inr (.inr (some 0)), .inl (i : Int), .inr (.inr (some (22 + 2 * r)))] G1 h Q = Q (some (.inl (bts (fun k => sdF g i M 0 (putR f i (k : Int))) 6 0 0))) G1 h') ∧ (∀ a, (a < 10 ∨ 16 ≤ a) → h' a = h a) := by
  obtain ⟨d, rfl, hd2⟩ := pos_of hd
  obtain ⟨h', c1, F1⟩ := L_ktf (d := d) (N := N) hd2 hr hM hi hg hN hf 6 0 0 h (by omega) e1 e2 eR T3 e8
  refine ⟨h', fun Q => ?_, F1⟩
  rw [C_110]
  simp (disch := omega) only [X_110_0, X_110_1, X_110_2, X_110_3, X_110_7, X_110_9_t, X_110_9_f, X_110_9, X_110_12, X_110_13, X_110_16, X_110_17, X_110_20, X_110_23, X_110_24, X_110_27, X_110_28, X_110_30, X_110_33, X_110_34, X_110_35, X_110_36, X_110_39_t, X_110_39_f, X_110_39, X_110_42, X_110_43, X_110_44, X_110_46, X_110_47, X_110_48, X_110_49, X_110_52, X_110_55, X_110_56, fixp_i, fixp_r]
  exact c1 Q
theorem S3_kb {d r M i : Nat} {N : Int} {h : AH} {F : TF} (hd : 5 ≤ d) (hr : r < 6) (hM : M ≤ 8) (hi : i < 14) (h68 : h 68 r = ((2 * M : Nat) : Int)) (hg : ∀ k, k < M → (0 ≤ h 67 (40 * r + 2 * k) ∧ h 67 (40 * r + 2 * k) < 4) ∧ 0 ≤ h 67 (40 * r + (2 * k + 1)) ∧ h 67 (40 * r + (2 * k + 1)) < 10) (hN : N + 8 ≤ 900000) (hf : tyOk (h 64) N) (hF : ∀ s, 98 ≤ s → F s = h 64 s) : ∃ F' : TF, (∀ Q, call d 179 [.inr (.inr (some 63)), .inl (i : Int), .inl (r : Int)] G1 (setR h 74 F) Q = Q (some (.inl (bts (fun k => sdF (fun k => h 67 (40 * r + k)) i M 0 (putR (h 64) i (k : Int))) 6 0 0))) G1 (setR h 74 F')) ∧ ∀ s, 98 ≤ s → F' s = h 64 s := by
  obtain ⟨d, rfl, hd2⟩ := pos_of hd
  obtain ⟨F', c1, F1⟩ := M_kb (d := d) (N := N) hd2 hr hM hi h68 hg hN hf 6 0 0 F (by omega) (by omega) hF
  refine ⟨F', fun Q => ?_, F1⟩
  rw [C_179]
  simp (disch := omega) only [X_179_0, X_179_1, X_179_2, X_179_3, X_179_7, X_179_9_t, X_179_9_f, X_179_9, X_179_12, X_179_13, X_179_14, X_179_15, X_179_17, X_179_18, X_179_21, X_179_23, X_179_24, X_179_25, X_179_26, X_179_27, X_179_30_t, X_179_30_f, X_179_30, X_179_33, X_179_34, X_179_36, X_179_37, X_179_40, X_179_41, X_179_42, X_179_43, X_179_46, X_179_49, X_179_50, fixp_i, fixp_r]
  exact c1 Q

theorem Op_kinds {x y : Int} (h_x : -2147483648 ≤ x ∧ x < 2147483648) (h_y : -2147483648 ≤ y ∧ y < 2147483648) : OpI 63 180 [.inl x, .inl y] := by
  intro n h H hn
  have g0 := g1_0
  have g1 := g1_1
  have g3 := g1_3
  have g63 := g1_63
  rcases LIV_c H with L | L
  · have cF : ∀ Q, call 29 92 [.inr (.inr (some 0)), .inl x, .inl y] G1 h Q = Q (some (.inl (-1))) G1 h := fun Q => S_pq_n (by omega) L.2.1
    refine OpI_same (r := -1) (by omega) H (fun Q => ?_) (fun Q => ?_)
    · rw [C_63]
      simp (disch := omega) only [X_63_0, X_63_1, X_63_2, X_63_3, X_63_6, X_63_7, X_63_8_t, X_63_8_f, X_63_8, X_63_11, X_63_12, X_63_15, X_63_16, X_63_17, X_63_18, X_63_21, X_63_22, X_63_23, X_63_26, cF, pushR_some, fixp_i]
    · rw [C_180]
      simp (disch := omega) only [X_180_0, X_180_1, X_180_2, X_180_5_t, X_180_5_f, X_180_5, X_180_8, X_180_9, X_180_12_t, X_180_12_f, X_180_12, X_180_15, X_180_16, X_180_17, X_180_18, X_180_19, X_180_22, X_180_23, X_180_24, X_180_25_t, X_180_25_f, X_180_25, X_180_28, X_180_29, X_180_32, X_180_33, X_180_34, X_180_35, X_180_38, S3_isBead_n, pushR_some]
  obtain ⟨L1, L2, L3⟩ := L
  by_cases hx : 0 ≤ x ∧ x < 14
  case neg =>
    have cF : ∀ Q, call 29 92 [.inr (.inr (some 0)), .inl x, .inl y] G1 h Q = Q (some (.inl (-1))) G1 h := fun Q => S_pq_f (by omega) L2 h_x hx
    refine OpI_same (r := -1) (by omega) H (fun Q => ?_) (fun Q => ?_)
    · rw [C_63]
      simp (disch := omega) only [X_63_0, X_63_1, X_63_2, X_63_3, X_63_6, X_63_7, X_63_8_t, X_63_8_f, X_63_8, X_63_11, X_63_12, X_63_15, X_63_16, X_63_17, X_63_18, X_63_21, X_63_22, X_63_23, X_63_26, cF, pushR_some, fixp_i]
    · rw [C_180]
      simp (disch := omega) only [X_180_0, X_180_1, X_180_2, X_180_5_t, X_180_5_f, X_180_5, X_180_8, X_180_9, X_180_12_t, X_180_12_f, X_180_12, X_180_15, X_180_16, X_180_17, X_180_18, X_180_19, X_180_22, X_180_23, X_180_24, X_180_25_t, X_180_25_f, X_180_25, X_180_28, X_180_29, X_180_32, X_180_33, X_180_34, X_180_35, X_180_38, S3_isBead_f, pushR_some]
  by_cases h1 : 0 ≤ y ∧ y < 6
  case neg =>
    have cF : ∀ Q, call 29 92 [.inr (.inr (some 0)), .inl x, .inl y] G1 h Q = Q (some (.inl (-1))) G1 h := fun Q => S_pq_r (by omega) L2 hx h_y h1
    refine OpI_same (r := -1) (by omega) H (fun Q => ?_) (fun Q => ?_)
    · rw [C_63]
      simp (disch := omega) only [X_63_0, X_63_1, X_63_2, X_63_3, X_63_6, X_63_7, X_63_8_t, X_63_8_f, X_63_8, X_63_11, X_63_12, X_63_15, X_63_16, X_63_17, X_63_18, X_63_21, X_63_22, X_63_23, X_63_26, cF, pushR_some, fixp_i]
    · rw [C_180]
      simp (disch := omega) only [X_180_0, X_180_1, X_180_2, X_180_5_t, X_180_5_f, X_180_5, X_180_8, X_180_9, X_180_12_t, X_180_12_f, X_180_12, X_180_15, X_180_16, X_180_17, X_180_18, X_180_19, X_180_22, X_180_23, X_180_24, X_180_25_t, X_180_25_f, X_180_25, X_180_28, X_180_29, X_180_32, X_180_33, X_180_34, X_180_35, X_180_38, S3_isBead_t, S3_isRow_f, pushR_some]
  obtain ⟨i, rfl⟩ := nat_of hx.1
  obtain ⟨r, rfl⟩ := nat_of h1.1
  have hi : i < 14 := by omega
  have hr : r < 6 := by omega
  have hR := rows_r hr
  have sR := rw_s hR.2
  have R := H.2.2.1 r hr
  have R' := R
  obtain ⟨R1, R2, R3, R4, R5⟩ := R'
  by_cases h2 : h 68 r < 0
  case pos =>
    have cF : ∀ Q, call 29 92 [.inr (.inr (some 0)), .inl (i : Int), .inl (r : Int)] G1 h Q = Q (some (.inl (-3))) G1 (fnd h 1) := fun Q => S_pq_m (by omega) L2 hx hr R h2
    have w68 : fnd h 1 68 r = h 68 r := by rw [fnd_o (by omega) (by omega)]
    have w63 : fnd h 1 63 1 = 1 := by rw [fnd_o (by omega) (by omega)]; exact L1
    refine OpI_find (w := 1) (by omega) H (fun Q => ?_) (fun Q => ?_)
    · rw [C_63]
      simp (disch := omega) only [X_63_0, X_63_1, X_63_2, X_63_3, X_63_6, X_63_7, X_63_8_t, X_63_8_f, X_63_8, X_63_11, X_63_12, X_63_15, X_63_16, X_63_17, X_63_18, X_63_21, X_63_22, X_63_23, X_63_26, cF, pushR_some, fixp_i]
    · rw [C_180]
      simp (disch := omega) only [X_180_0, X_180_1, X_180_2, X_180_5_t, X_180_5_f, X_180_5, X_180_8, X_180_9, X_180_12_t, X_180_12_f, X_180_12, X_180_15, X_180_16, X_180_17, X_180_18, X_180_19, X_180_22, X_180_23, X_180_24, X_180_25_t, X_180_25_f, X_180_25, X_180_28, X_180_29, X_180_32, X_180_33, X_180_34, X_180_35, X_180_38, S3_isBead_t, S3_isRow_t, S3_lq_m, pushR_some, fixp_i]
  by_cases h3 : 16 < h 68 r ∨ h 68 r % 2 = 1
  case pos =>
    have cF : ∀ Q, call 29 92 [.inr (.inr (some 0)), .inl (i : Int), .inl (r : Int)] G1 h Q = Q (some (.inl (-3))) G1 (fnd h 5) := fun Q => S_pq_s (by omega) L2 hx hr R (by omega) h3
    have w68 : fnd h 5 68 r = h 68 r := by rw [fnd_o (by omega) (by omega)]
    have w63 : fnd h 5 63 1 = 1 := by rw [fnd_o (by omega) (by omega)]; exact L1
    refine OpI_find (w := 5) (by omega) H (fun Q => ?_) (fun Q => ?_)
    · rw [C_63]
      simp (disch := omega) only [X_63_0, X_63_1, X_63_2, X_63_3, X_63_6, X_63_7, X_63_8_t, X_63_8_f, X_63_8, X_63_11, X_63_12, X_63_15, X_63_16, X_63_17, X_63_18, X_63_21, X_63_22, X_63_23, X_63_26, cF, pushR_some, fixp_i]
    · rw [C_180]
      simp (disch := omega) only [X_180_0, X_180_1, X_180_2, X_180_5_t, X_180_5_f, X_180_5, X_180_8, X_180_9, X_180_12_t, X_180_12_f, X_180_12, X_180_15, X_180_16, X_180_17, X_180_18, X_180_19, X_180_22, X_180_23, X_180_24, X_180_25_t, X_180_25_f, X_180_25, X_180_28, X_180_29, X_180_32, X_180_33, X_180_34, X_180_35, X_180_38, S3_isBead_t, S3_isRow_t, S3_lq_s, pushR_some, fixp_i]
  have cF : ∀ Q, call 29 92 [.inr (.inr (some 0)), .inl (i : Int), .inl (r : Int)] G1 h Q = _ := fun Q => S_pq_a (by omega) L2 hx hr R (by omega) (by omega)
  have cL : ∀ (h' : AH) Q, h' 67 = h 67 → h' 68 = h 68 → call 29 177 [.inr (.inr (some 63)), .inl (r : Int)] G1 h' Q = if prOk h r = true then Q (some (.inl 1)) G1 h' else Q (some (.inl (-3))) G1 (fn3 h' 3) := fun h' Q e1 e2 => by
    have e3 : prOk h' r = prOk h r := by unfold prOk; rw [e1, e2]
    rw [S3_lq_a (by omega) hr (by rw [e2]; omega) (by rw [e2]; omega) (fun k hk => by rw [e1]; rw [e2] at hk; exact (R5 k hk).2), e3]
  by_cases hm : prOk h r = true
  case neg =>
    have cL2 := fun Q => cL (fnd h 3) Q (fnd_o (by omega) (by omega)) (fnd_o (by omega) (by omega))
    have w63 : fnd h 3 63 1 = 1 := by rw [fnd_o (by omega) (by omega)]; exact L1
    refine OpI_find (w := 3) (by omega) H (fun Q => ?_) (fun Q => ?_)
    · rw [C_63]
      simp (disch := omega) only [X_63_0, X_63_1, X_63_2, X_63_3, X_63_6, X_63_7, X_63_8_t, X_63_8_f, X_63_8, X_63_11, X_63_12, X_63_15, X_63_16, X_63_17, X_63_18, X_63_21, X_63_22, X_63_23, X_63_26, cF, if_neg hm, pushR_some, fixp_i]
    · rw [C_180]
      simp (disch := omega) only [X_180_0, X_180_1, X_180_2, X_180_5_t, X_180_5_f, X_180_5, X_180_8, X_180_9, X_180_12_t, X_180_12_f, X_180_12, X_180_15, X_180_16, X_180_17, X_180_18, X_180_19, X_180_22, X_180_23, X_180_24, X_180_25_t, X_180_25_f, X_180_25, X_180_28, X_180_29, X_180_32, X_180_33, X_180_34, X_180_35, X_180_38, S3_isBead_t, S3_isRow_t, cL2, if_neg hm, pushR_some, fixp_i]
  obtain ⟨M, hMM⟩ : ∃ M : Nat, h 68 r = ((2 * M : Nat) : Int) := ⟨(h 68 r).toNat / 2, by omega⟩
  have hM : M ≤ 8 := by omega
  have mk := prOk_iff hMM hm
  have hf := FUL_ty L3
  have hz := H.2.2.2.2.1.2.2.2
  obtain ⟨hd, cR, FR⟩ := S_ktf (d := 29) (r := r) (M := M) (i := i) (g := fun k => h 67 (40 * r + k)) (f := h 64) (N := 40) (h := h) (by omega) hr hM hi mk (by omega) hf (by omega) (fun k hk => (R5 k (by omega)).1) H.1 L3.1 L2
  have fd : ∀ a, (a < 10 ∨ 16 ≤ a) → hd a = h a := FR
  have d67 : hd 67 = h 67 := fd 67 (by omega)
  have d68 : hd 68 = h 68 := fd 68 (by omega)
  have d64 : hd 64 = h 64 := fd 64 (by omega)
  have d63 : hd 63 1 = 1 := by rw [fd 63 (by omega), L1]
  have d74 : ∀ s, 98 ≤ s → hd 74 s = 0 := fun s hs => by rw [fd 74 (by omega)]; exact H.2.1 s hs
  have cL2 := fun Q => cL hd Q d67 d68
  obtain ⟨F, q1, qF⟩ := S3_kb (d := 29) (r := r) (M := M) (i := i) (N := 40) (h := hd) (F := hd 74) (by omega) hr hM hi (by rw [d68]; exact hMM) (by rw [d67]; exact mk) (by omega) (by rw [d64]; exact hf) (fun s hs => by rw [d74 s hs, d64, hz s hs])
  rw [d67, d64, setR_e] at q1
  have bb := bts_b (P := fun k => sdF (fun k => h 67 (40 * r + k)) i M 0 (putR (h 64) i (k : Int))) (n := 6) (i := 0) (a := 0) (by omega)
  refine ⟨bts (fun k => sdF (fun k => h 67 (40 * r + k)) i M 0 (putR (h 64) i (k : Int))) 6 0 0, hd, setR hd 74 F, by omega, fun Q => ?_, fun Q => ?_, INV_same (INV_scr H (fun a a1 => ?_) (fun s hs => ?_))⟩
  · rw [C_63]
    simp (disch := omega) only [X_63_0, X_63_1, X_63_2, X_63_3, X_63_6, X_63_7, X_63_8_t, X_63_8_f, X_63_8, X_63_11, X_63_12, X_63_15, X_63_16, X_63_17, X_63_18, X_63_21, X_63_22, X_63_23, X_63_26, r1_0_0, Int.toNat_natCast, hR.1, cF, if_pos hm, cR, pushR_some, pushR_none, fixp_i]
  · rw [C_180]
    simp (disch := omega) only [X_180_0, X_180_1, X_180_2, X_180_5_t, X_180_5_f, X_180_5, X_180_8, X_180_9, X_180_12_t, X_180_12_f, X_180_12, X_180_15, X_180_16, X_180_17, X_180_18, X_180_19, X_180_22, X_180_23, X_180_24, X_180_25_t, X_180_25_f, X_180_25, X_180_28, X_180_29, X_180_32, X_180_33, X_180_34, X_180_35, X_180_38, S3_isBead_t, S3_isRow_t, cL2, if_pos hm, q1, pushR_some, pushR_none, fixp_i]
  · have n74 : ¬ a = 74 := fun z => a1 (by unfold scr; omega)
    have n10 : a < 10 ∨ 17 ≤ a := by have : ¬ (10 ≤ a ∧ a < 17) := fun z => a1 (Or.inl z); omega
    rw [setR_n n74, fd a (by omega)]
  · rw [setR_s, qF s hs, d64]; exact hz s hs

theorem Op_colours {x y : Int} (h_x : -2147483648 ≤ x ∧ x < 2147483648) (h_y : -2147483648 ≤ y ∧ y < 2147483648) : OpI 64 181 [.inl x, .inl y] := by
  intro n h H hn
  have g0 := g1_0
  have g1 := g1_1
  have g3 := g1_3
  have g63 := g1_63
  rcases LIV_c H with L | L
  · have cF : ∀ Q, call 29 92 [.inr (.inr (some 0)), .inl x, .inl y] G1 h Q = Q (some (.inl (-1))) G1 h := fun Q => S_pq_n (by omega) L.2.1
    refine OpI_same (r := -1) (by omega) H (fun Q => ?_) (fun Q => ?_)
    · rw [C_64]
      simp (disch := omega) only [X_64_0, X_64_1, X_64_2, X_64_3, X_64_6, X_64_7, X_64_8_t, X_64_8_f, X_64_8, X_64_11, X_64_12, X_64_13, X_64_14, X_64_16, X_64_17, X_64_21, X_64_23_t, X_64_23_f, X_64_23, X_64_26, X_64_27, X_64_30, X_64_31, X_64_34, X_64_37, X_64_38, X_64_41, X_64_42, X_64_44, X_64_47, X_64_48, X_64_49, X_64_50, X_64_53, X_64_54, X_64_55, X_64_58_t, X_64_58_f, X_64_58, X_64_61, X_64_63, X_64_64, X_64_66, X_64_67, X_64_68, X_64_70, X_64_73, X_64_76, X_64_78, cF, pushR_some, fixp_i]
    · rw [C_181]
      simp (disch := omega) only [X_181_0, X_181_1, X_181_2, X_181_5_t, X_181_5_f, X_181_5, X_181_8, X_181_9, X_181_12_t, X_181_12_f, X_181_12, X_181_15, X_181_16, X_181_17, X_181_18, X_181_19, X_181_22, X_181_23, X_181_24, X_181_25_t, X_181_25_f, X_181_25, X_181_28, X_181_29, X_181_30, X_181_31, X_181_33, X_181_34, X_181_38, X_181_40_t, X_181_40_f, X_181_40, X_181_43, X_181_45, X_181_46, X_181_47, X_181_48, X_181_51, X_181_52, X_181_53, X_181_54, X_181_55, X_181_57, X_181_58, X_181_61_t, X_181_61_f, X_181_61, X_181_64, X_181_65, X_181_67, X_181_68, X_181_71, X_181_72, X_181_73, X_181_75, X_181_78, X_181_81, X_181_83, S3_isBead_n, pushR_some]
  obtain ⟨L1, L2, L3⟩ := L
  by_cases hx : 0 ≤ x ∧ x < 14
  case neg =>
    have cF : ∀ Q, call 29 92 [.inr (.inr (some 0)), .inl x, .inl y] G1 h Q = Q (some (.inl (-1))) G1 h := fun Q => S_pq_f (by omega) L2 h_x hx
    refine OpI_same (r := -1) (by omega) H (fun Q => ?_) (fun Q => ?_)
    · rw [C_64]
      simp (disch := omega) only [X_64_0, X_64_1, X_64_2, X_64_3, X_64_6, X_64_7, X_64_8_t, X_64_8_f, X_64_8, X_64_11, X_64_12, X_64_13, X_64_14, X_64_16, X_64_17, X_64_21, X_64_23_t, X_64_23_f, X_64_23, X_64_26, X_64_27, X_64_30, X_64_31, X_64_34, X_64_37, X_64_38, X_64_41, X_64_42, X_64_44, X_64_47, X_64_48, X_64_49, X_64_50, X_64_53, X_64_54, X_64_55, X_64_58_t, X_64_58_f, X_64_58, X_64_61, X_64_63, X_64_64, X_64_66, X_64_67, X_64_68, X_64_70, X_64_73, X_64_76, X_64_78, cF, pushR_some, fixp_i]
    · rw [C_181]
      simp (disch := omega) only [X_181_0, X_181_1, X_181_2, X_181_5_t, X_181_5_f, X_181_5, X_181_8, X_181_9, X_181_12_t, X_181_12_f, X_181_12, X_181_15, X_181_16, X_181_17, X_181_18, X_181_19, X_181_22, X_181_23, X_181_24, X_181_25_t, X_181_25_f, X_181_25, X_181_28, X_181_29, X_181_30, X_181_31, X_181_33, X_181_34, X_181_38, X_181_40_t, X_181_40_f, X_181_40, X_181_43, X_181_45, X_181_46, X_181_47, X_181_48, X_181_51, X_181_52, X_181_53, X_181_54, X_181_55, X_181_57, X_181_58, X_181_61_t, X_181_61_f, X_181_61, X_181_64, X_181_65, X_181_67, X_181_68, X_181_71, X_181_72, X_181_73, X_181_75, X_181_78, X_181_81, X_181_83, S3_isBead_f, pushR_some]
  by_cases h1 : 0 ≤ y ∧ y < 6
  case neg =>
    have cF : ∀ Q, call 29 92 [.inr (.inr (some 0)), .inl x, .inl y] G1 h Q = Q (some (.inl (-1))) G1 h := fun Q => S_pq_r (by omega) L2 hx h_y h1
    refine OpI_same (r := -1) (by omega) H (fun Q => ?_) (fun Q => ?_)
    · rw [C_64]
      simp (disch := omega) only [X_64_0, X_64_1, X_64_2, X_64_3, X_64_6, X_64_7, X_64_8_t, X_64_8_f, X_64_8, X_64_11, X_64_12, X_64_13, X_64_14, X_64_16, X_64_17, X_64_21, X_64_23_t, X_64_23_f, X_64_23, X_64_26, X_64_27, X_64_30, X_64_31, X_64_34, X_64_37, X_64_38, X_64_41, X_64_42, X_64_44, X_64_47, X_64_48, X_64_49, X_64_50, X_64_53, X_64_54, X_64_55, X_64_58_t, X_64_58_f, X_64_58, X_64_61, X_64_63, X_64_64, X_64_66, X_64_67, X_64_68, X_64_70, X_64_73, X_64_76, X_64_78, cF, pushR_some, fixp_i]
    · rw [C_181]
      simp (disch := omega) only [X_181_0, X_181_1, X_181_2, X_181_5_t, X_181_5_f, X_181_5, X_181_8, X_181_9, X_181_12_t, X_181_12_f, X_181_12, X_181_15, X_181_16, X_181_17, X_181_18, X_181_19, X_181_22, X_181_23, X_181_24, X_181_25_t, X_181_25_f, X_181_25, X_181_28, X_181_29, X_181_30, X_181_31, X_181_33, X_181_34, X_181_38, X_181_40_t, X_181_40_f, X_181_40, X_181_43, X_181_45, X_181_46, X_181_47, X_181_48, X_181_51, X_181_52, X_181_53, X_181_54, X_181_55, X_181_57, X_181_58, X_181_61_t, X_181_61_f, X_181_61, X_181_64, X_181_65, X_181_67, X_181_68, X_181_71, X_181_72, X_181_73, X_181_75, X_181_78, X_181_81, X_181_83, S3_isBead_t, S3_isRow_f, pushR_some]
  obtain ⟨i, rfl⟩ := nat_of hx.1
  obtain ⟨r, rfl⟩ := nat_of h1.1
  have hi : i < 14 := by omega
  have hr : r < 6 := by omega
  have hR := rows_r hr
  have sR := rw_s hR.2
  have R := H.2.2.1 r hr
  have R' := R
  obtain ⟨R1, R2, R3, R4, R5⟩ := R'
  by_cases h2 : h 68 r < 0
  case pos =>
    have cF : ∀ Q, call 29 92 [.inr (.inr (some 0)), .inl (i : Int), .inl (r : Int)] G1 h Q = Q (some (.inl (-3))) G1 (fnd h 1) := fun Q => S_pq_m (by omega) L2 hx hr R h2
    have w68 : fnd h 1 68 r = h 68 r := by rw [fnd_o (by omega) (by omega)]
    have w63 : fnd h 1 63 1 = 1 := by rw [fnd_o (by omega) (by omega)]; exact L1
    refine OpI_find (w := 1) (by omega) H (fun Q => ?_) (fun Q => ?_)
    · rw [C_64]
      simp (disch := omega) only [X_64_0, X_64_1, X_64_2, X_64_3, X_64_6, X_64_7, X_64_8_t, X_64_8_f, X_64_8, X_64_11, X_64_12, X_64_13, X_64_14, X_64_16, X_64_17, X_64_21, X_64_23_t, X_64_23_f, X_64_23, X_64_26, X_64_27, X_64_30, X_64_31, X_64_34, X_64_37, X_64_38, X_64_41, X_64_42, X_64_44, X_64_47, X_64_48, X_64_49, X_64_50, X_64_53, X_64_54, X_64_55, X_64_58_t, X_64_58_f, X_64_58, X_64_61, X_64_63, X_64_64, X_64_66, X_64_67, X_64_68, X_64_70, X_64_73, X_64_76, X_64_78, cF, pushR_some, fixp_i]
    · rw [C_181]
      simp (disch := omega) only [X_181_0, X_181_1, X_181_2, X_181_5_t, X_181_5_f, X_181_5, X_181_8, X_181_9, X_181_12_t, X_181_12_f, X_181_12, X_181_15, X_181_16, X_181_17, X_181_18, X_181_19, X_181_22, X_181_23, X_181_24, X_181_25_t, X_181_25_f, X_181_25, X_181_28, X_181_29, X_181_30, X_181_31, X_181_33, X_181_34, X_181_38, X_181_40_t, X_181_40_f, X_181_40, X_181_43, X_181_45, X_181_46, X_181_47, X_181_48, X_181_51, X_181_52, X_181_53, X_181_54, X_181_55, X_181_57, X_181_58, X_181_61_t, X_181_61_f, X_181_61, X_181_64, X_181_65, X_181_67, X_181_68, X_181_71, X_181_72, X_181_73, X_181_75, X_181_78, X_181_81, X_181_83, S3_isBead_t, S3_isRow_t, S3_lq_m, pushR_some, fixp_i]
  by_cases h3 : 16 < h 68 r ∨ h 68 r % 2 = 1
  case pos =>
    have cF : ∀ Q, call 29 92 [.inr (.inr (some 0)), .inl (i : Int), .inl (r : Int)] G1 h Q = Q (some (.inl (-3))) G1 (fnd h 5) := fun Q => S_pq_s (by omega) L2 hx hr R (by omega) h3
    have w68 : fnd h 5 68 r = h 68 r := by rw [fnd_o (by omega) (by omega)]
    have w63 : fnd h 5 63 1 = 1 := by rw [fnd_o (by omega) (by omega)]; exact L1
    refine OpI_find (w := 5) (by omega) H (fun Q => ?_) (fun Q => ?_)
    · rw [C_64]
      simp (disch := omega) only [X_64_0, X_64_1, X_64_2, X_64_3, X_64_6, X_64_7, X_64_8_t, X_64_8_f, X_64_8, X_64_11, X_64_12, X_64_13, X_64_14, X_64_16, X_64_17, X_64_21, X_64_23_t, X_64_23_f, X_64_23, X_64_26, X_64_27, X_64_30, X_64_31, X_64_34, X_64_37, X_64_38, X_64_41, X_64_42, X_64_44, X_64_47, X_64_48, X_64_49, X_64_50, X_64_53, X_64_54, X_64_55, X_64_58_t, X_64_58_f, X_64_58, X_64_61, X_64_63, X_64_64, X_64_66, X_64_67, X_64_68, X_64_70, X_64_73, X_64_76, X_64_78, cF, pushR_some, fixp_i]
    · rw [C_181]
      simp (disch := omega) only [X_181_0, X_181_1, X_181_2, X_181_5_t, X_181_5_f, X_181_5, X_181_8, X_181_9, X_181_12_t, X_181_12_f, X_181_12, X_181_15, X_181_16, X_181_17, X_181_18, X_181_19, X_181_22, X_181_23, X_181_24, X_181_25_t, X_181_25_f, X_181_25, X_181_28, X_181_29, X_181_30, X_181_31, X_181_33, X_181_34, X_181_38, X_181_40_t, X_181_40_f, X_181_40, X_181_43, X_181_45, X_181_46, X_181_47, X_181_48, X_181_51, X_181_52, X_181_53, X_181_54, X_181_55, X_181_57, X_181_58, X_181_61_t, X_181_61_f, X_181_61, X_181_64, X_181_65, X_181_67, X_181_68, X_181_71, X_181_72, X_181_73, X_181_75, X_181_78, X_181_81, X_181_83, S3_isBead_t, S3_isRow_t, S3_lq_s, pushR_some, fixp_i]
  have cF : ∀ Q, call 29 92 [.inr (.inr (some 0)), .inl (i : Int), .inl (r : Int)] G1 h Q = _ := fun Q => S_pq_a (by omega) L2 hx hr R (by omega) (by omega)
  have cL : ∀ (h' : AH) Q, h' 67 = h 67 → h' 68 = h 68 → call 29 177 [.inr (.inr (some 63)), .inl (r : Int)] G1 h' Q = if prOk h r = true then Q (some (.inl 1)) G1 h' else Q (some (.inl (-3))) G1 (fn3 h' 3) := fun h' Q e1 e2 => by
    have e3 : prOk h' r = prOk h r := by unfold prOk; rw [e1, e2]
    rw [S3_lq_a (by omega) hr (by rw [e2]; omega) (by rw [e2]; omega) (fun k hk => by rw [e1]; rw [e2] at hk; exact (R5 k hk).2), e3]
  by_cases hm : prOk h r = true
  case neg =>
    have cL2 := fun Q => cL (fnd h 3) Q (fnd_o (by omega) (by omega)) (fnd_o (by omega) (by omega))
    have w63 : fnd h 3 63 1 = 1 := by rw [fnd_o (by omega) (by omega)]; exact L1
    refine OpI_find (w := 3) (by omega) H (fun Q => ?_) (fun Q => ?_)
    · rw [C_64]
      simp (disch := omega) only [X_64_0, X_64_1, X_64_2, X_64_3, X_64_6, X_64_7, X_64_8_t, X_64_8_f, X_64_8, X_64_11, X_64_12, X_64_13, X_64_14, X_64_16, X_64_17, X_64_21, X_64_23_t, X_64_23_f, X_64_23, X_64_26, X_64_27, X_64_30, X_64_31, X_64_34, X_64_37, X_64_38, X_64_41, X_64_42, X_64_44, X_64_47, X_64_48, X_64_49, X_64_50, X_64_53, X_64_54, X_64_55, X_64_58_t, X_64_58_f, X_64_58, X_64_61, X_64_63, X_64_64, X_64_66, X_64_67, X_64_68, X_64_70, X_64_73, X_64_76, X_64_78, cF, if_neg hm, pushR_some, fixp_i]
    · rw [C_181]
      simp (disch := omega) only [X_181_0, X_181_1, X_181_2, X_181_5_t, X_181_5_f, X_181_5, X_181_8, X_181_9, X_181_12_t, X_181_12_f, X_181_12, X_181_15, X_181_16, X_181_17, X_181_18, X_181_19, X_181_22, X_181_23, X_181_24, X_181_25_t, X_181_25_f, X_181_25, X_181_28, X_181_29, X_181_30, X_181_31, X_181_33, X_181_34, X_181_38, X_181_40_t, X_181_40_f, X_181_40, X_181_43, X_181_45, X_181_46, X_181_47, X_181_48, X_181_51, X_181_52, X_181_53, X_181_54, X_181_55, X_181_57, X_181_58, X_181_61_t, X_181_61_f, X_181_61, X_181_64, X_181_65, X_181_67, X_181_68, X_181_71, X_181_72, X_181_73, X_181_75, X_181_78, X_181_81, X_181_83, S3_isBead_t, S3_isRow_t, cL2, if_neg hm, pushR_some, fixp_i]
  obtain ⟨M, hMM⟩ : ∃ M : Nat, h 68 r = ((2 * M : Nat) : Int) := ⟨(h 68 r).toNat / 2, by omega⟩
  have hM : M ≤ 8 := by omega
  have mk := prOk_iff hMM hm
  have hf := FUL_ty L3
  have hz := H.2.2.2.2.1.2.2.2
  obtain ⟨hd, cR, FR⟩ := L_colours (d := 29) (r := r) (M := M) (i := i) (s := 0) (g := fun k => h 67 (40 * r + k)) (f := h 64) (N := 40) (by omega) hr hM hi mk (by omega) hf 10 0 0 h (by omega) (by omega) (fun k hk => (R5 k (by omega)).1) H.1 L3.1 L2
  have fd : ∀ a, (a < 10 ∨ 16 ≤ a) → hd a = h a := FR
  have d67 : hd 67 = h 67 := fd 67 (by omega)
  have d68 : hd 68 = h 68 := fd 68 (by omega)
  have d64 : hd 64 = h 64 := fd 64 (by omega)
  have d63 : hd 63 1 = 1 := by rw [fd 63 (by omega), L1]
  have d74 : ∀ s, 98 ≤ s → hd 74 s = 0 := fun s hs => by rw [fd 74 (by omega)]; exact H.2.1 s hs
  have cL2 := fun Q => cL hd Q d67 d68
  obtain ⟨F, q1, qF⟩ := M_colours (d := 29) (r := r) (M := M) (i := i) (s := 1) (N := 40) (h := hd) (by omega) hr hM hi (by rw [d68]; exact hMM) (by rw [d67]; exact mk) (by omega) (by rw [d64]; exact hf) 10 0 0 (hd 74) (by omega) (by omega) (fun s hs => by rw [d74 s hs, d64, hz s hs])
  rw [d67, d64, setR_e] at q1
  have bb := bts_b (P := fun k => sdF (fun k => h 67 (40 * r + k)) i M 0 (putR (h 64) (14 + i) (k : Int))) (n := 10) (i := 0) (a := 0) (by omega)
  refine ⟨bts (fun k => sdF (fun k => h 67 (40 * r + k)) i M 0 (putR (h 64) (14 + i) (k : Int))) 10 0 0, hd, setR hd 74 F, by omega, fun Q => ?_, fun Q => ?_, INV_same (INV_scr H (fun a a1 => ?_) (fun s hs => ?_))⟩
  · rw [C_64]
    simp (disch := omega) only [X_64_0, X_64_1, X_64_2, X_64_3, X_64_6, X_64_7, X_64_8_t, X_64_8_f, X_64_8, X_64_11, X_64_12, X_64_13, X_64_14, X_64_16, X_64_17, X_64_21, X_64_23_t, X_64_23_f, X_64_23, X_64_26, X_64_27, X_64_30, X_64_31, X_64_34, X_64_37, X_64_38, X_64_41, X_64_42, X_64_44, X_64_47, X_64_48, X_64_49, X_64_50, X_64_53, X_64_54, X_64_55, X_64_58_t, X_64_58_f, X_64_58, X_64_61, X_64_63, X_64_64, X_64_66, X_64_67, X_64_68, X_64_70, X_64_73, X_64_76, X_64_78, r1_0_0, Int.toNat_natCast, hR.1, cF, if_pos hm, pushR_some, pushR_none, fixp_i, fixp_n]
    exact cR Q
  · rw [C_181]
    simp (disch := omega) only [X_181_0, X_181_1, X_181_2, X_181_5_t, X_181_5_f, X_181_5, X_181_8, X_181_9, X_181_12_t, X_181_12_f, X_181_12, X_181_15, X_181_16, X_181_17, X_181_18, X_181_19, X_181_22, X_181_23, X_181_24, X_181_25_t, X_181_25_f, X_181_25, X_181_28, X_181_29, X_181_30, X_181_31, X_181_33, X_181_34, X_181_38, X_181_40_t, X_181_40_f, X_181_40, X_181_43, X_181_45, X_181_46, X_181_47, X_181_48, X_181_51, X_181_52, X_181_53, X_181_54, X_181_55, X_181_57, X_181_58, X_181_61_t, X_181_61_f, X_181_61, X_181_64, X_181_65, X_181_67, X_181_68, X_181_71, X_181_72, X_181_73, X_181_75, X_181_78, X_181_81, X_181_83, S3_isBead_t, S3_isRow_t, cL2, if_pos hm, pushR_some, pushR_none, fixp_i, fixp_n]
    exact q1 Q
  · have n74 : ¬ a = 74 := fun z => a1 (by unfold scr; omega)
    have n10 : a < 10 ∨ 17 ≤ a := by have : ¬ (10 ≤ a ∧ a < 17) := fun z => a1 (Or.inl z); omega
    rw [setR_n n74, fd a (by omega)]
  · rw [setR_s, qF s hs, d64]; exact hz s hs