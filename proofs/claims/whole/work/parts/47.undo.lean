/-! 47: undo, keep, on -/
theorem L_undo {d m : Nat} {f : TF} {h : AH} {v : Int} (hd : 4 ≤ d) (hR : h 1000 = rgT) (hD : DR h 3 f) : ∀ (j k : Nat) (hk : AH), k + j ≤ 100 → ((m + j : Nat) : Int) ≤ f 28 → TR hk 3 (rp f (m + j)) → hk 3 7 = ((m + j : Nat) : Int) → (∀ a, (a < 3 ∨ 9 ≤ a ∨ a = 4 ∨ a = 5) → hk a = h a) → (∀ s, ¬ s = 6 → ¬ s = 7 → hk 3 s = h 3 s) → ∃ h', (∀ Q, wp d 54 29 [some (.inr (.inr (some 0))), some (.inl v), some (.inl ((k + j : Nat) : Int)), some (.inl (k : Int))] [] G1 hk Q = Q (some (.inl ((k + j : Nat) : Int))) G1 h') ∧ TR h' 3 (rp f m) ∧ h' 3 7 = (m : Int) ∧ (∀ a, (a < 3 ∨ 9 ≤ a ∨ a = 4 ∨ a = 5) → h' a = h a) ∧ (∀ s, ¬ s = 6 → ¬ s = 7 → h' 3 s = h 3 s) := by
  have g0 := g1_0
  have g3 := g1_3
  have t3 : isToy 3 := Or.inl rfl
  have hD3 := hD.2.2.1
  intro j
  induction j with
  | zero =>
    intro k hk ak a0 a1 a2 a3 a4
    refine ⟨hk, fun Q => ?_, a1, a2, a3, a4⟩
    simp (disch := omega) only [X_54_29, X_54_0, X_54_1_t, X_54_1_f, X_54_1, X_54_4, X_54_5, X_54_6, X_54_9, X_54_12_t, X_54_12_f, X_54_12, X_54_15, X_54_16, X_54_17, X_54_18, X_54_21, X_54_24, X_54_25, X_54_26, X_54_27, X_54_28, X_54_30, X_54_31_t, X_54_31_f, X_54_31, X_54_34, X_54_35, X_54_38, X_54_41, X_54_44, X_54_47, X_54_48]
  | succ j ih =>
    intro k hk ak a0 a1 a2 a3 a4
    have q := hD.2.2.2 (m + j) (by omega)
    have ok := DR_ok hD (n := m + j) (by omega)
    have e1 : hk (3 + 6) (hk 3 7 - 1).toNat = h (3 + 6) (m + j) := by
      rw [a3 (3 + 6) (by omega), a2]
      congr 1
      omega
    have e2 : rp f (m + (j + 1)) = dF (rp f (m + j)) (cd (h (3 + 6) (m + j))) := by rw [← q.2]; rfl
    rw [e2] at a1
    obtain ⟨h1, c1, T1, F1, F2, F3⟩ := S_undoLast (d := d) (t := 3) (x := h (3 + 6) (m + j)) (h := hk) (g := rp f (m + j)) hd t3 (by rw [a3 1000 (by omega), hR]) q.1 (by omega) e1 a1 (rp_lo ok).1
    obtain ⟨h', c2, r⟩ := ih (k + 1) h1 (by omega) (by omega) T1 (by rw [F2, a2]; omega) (fun a ha => by rw [F1 a (by omega), a3 a ha]) (fun s s1 s2 => by rw [F3 s s1 s2, a4 s s1 s2])
    refine ⟨h', fun Q => ?_, r⟩
    have c3 := c2 Q
    rw [show k + 1 + j = k + (j + 1) by omega] at c3
    refine Eq.trans ?_ c3
    rw [X_54_29]
    simp (disch := omega) only [X_54_0, X_54_1_t, X_54_1_f, X_54_1, X_54_4, X_54_5, X_54_6, X_54_9, X_54_12_t, X_54_12_f, X_54_12, X_54_15, X_54_16, X_54_17, X_54_18, X_54_21, X_54_24, X_54_25, X_54_26, X_54_27, X_54_28, X_54_30, X_54_31_t, X_54_31_f, X_54_31, X_54_34, X_54_35, X_54_38, X_54_41, X_54_44, X_54_47, X_54_48, r1_0_2, c1, pushR_none, fixp_i, natS]
theorem L3_undo {d m : Nat} {F : TF} {h : AH} {v : Int} {Q : Option AV → AG → AH → Prop} (hd : 3 ≤ d) (hm : m ≤ 40) (ok : ∀ k, k < m → dOk (F (29 + k))) : ∀ (j k : Nat), k + j = m → wp d 161 44 [some (.inr (.inr (some 63))), some (.inl (m : Int)), some (.inl v), some (.inl (k : Int))] [] G1 (setR h 64 (rp F k)) Q = Q (some (.inl (v - (m : Int)))) G1 (setR h 64 (rp F m)) := by
  have g0 := g1_63
  have g64 := g1_64
  intro j
  induction j with
  | zero =>
    intro k hk
    obtain rfl : k = m := by omega
    simp (disch := omega) only [X_161_44, X_161_0, X_161_1, X_161_2, X_161_3, X_161_4, X_161_7, X_161_9, X_161_10, X_161_11, X_161_14_t, X_161_14_f, X_161_14, X_161_17, X_161_18, X_161_19, X_161_20, X_161_23, X_161_25, X_161_26, X_161_27, X_161_28, X_161_31, X_161_33, X_161_34, X_161_35, X_161_36, X_161_39, X_161_42, X_161_43, X_161_45, X_161_46_t, X_161_46_f, X_161_46, X_161_49, X_161_50, X_161_53, X_161_54, X_161_57, X_161_59, X_161_60, X_161_61, X_161_62, X_161_65, X_161_68, X_161_71, X_161_72, X_161_73, X_161_74]
  | succ j ih =>
    intro k hk
    have L := rp_lo (f := F) (n := k) (fun i hi => ok i (by omega))
    have q := ok k (by omega)
    have e1 : ((29 : Int) + (k : Int)).toNat = 29 + k := by omega
    have e2 : rp F k (29 + k) = F (29 + k) := L.2 _ (by omega)
    have cG : ∀ Q, call d 149 [.inr (.inr (some 64)), .inl (F (29 + k))] G1 (setR h 64 (rp F k)) Q = Q none G1 (setR h 64 (rp F (k + 1))) := fun Q => by
      rw [S3_goDeed hd (Or.inl rfl) q (by rw [setR_s]; exact L.1), setR_s, setR_2]
      rfl
    rw [← ih (k + 1) (by omega), X_161_44]
    simp (disch := omega) only [X_161_0, X_161_1, X_161_2, X_161_3, X_161_4, X_161_7, X_161_9, X_161_10, X_161_11, X_161_14_t, X_161_14_f, X_161_14, X_161_17, X_161_18, X_161_19, X_161_20, X_161_23, X_161_25, X_161_26, X_161_27, X_161_28, X_161_31, X_161_33, X_161_34, X_161_35, X_161_36, X_161_39, X_161_42, X_161_43, X_161_45, X_161_46_t, X_161_46_f, X_161_46, X_161_49, X_161_50, X_161_53, X_161_54, X_161_57, X_161_59, X_161_60, X_161_61, X_161_62, X_161_65, X_161_68, X_161_71, X_161_72, X_161_73, X_161_74, r1_63_0, e1, setR_s, e2, cG, pushR_none, fixp_i, natS]
theorem Op_undo {x : Int} (h_x : -2147483648 ≤ x ∧ x < 2147483648) : OpI 54 161 [.inl x] := by
  intro n h H hn
  have g0 := g1_0
  have g3 := g1_3
  have g63 := g1_63
  have g64 := g1_64
  have e7 : h 3 7 = h 64 28 := H.2.2.2.2.1.2.1
  have b28 : 0 ≤ h 64 28 ∧ h 64 28 ≤ 40 := by
    rcases LIV_c H with L | L
    · omega
    · have := L.2.2.2.2.1; exact ⟨this.2.1, this.2.2.1⟩
  by_cases h1 : 0 ≤ x ∧ x ≤ h 64 28
  case neg =>
    refine OpI_same (r := -1) (by omega) H (fun Q => ?_) (fun Q => ?_)
    · rw [C_54]
      by_cases z : x < 0
      · simp (disch := omega) only [X_54_0, X_54_1_t, X_54_1_f, X_54_1, X_54_4, X_54_5, X_54_6, X_54_9, X_54_12_t, X_54_12_f, X_54_12, X_54_15, X_54_16, X_54_17, X_54_18, X_54_21, X_54_24, X_54_25, X_54_26, X_54_27, X_54_28, X_54_30, X_54_31_t, X_54_31_f, X_54_31, X_54_34, X_54_35, X_54_38, X_54_41, X_54_44, X_54_47, X_54_48, r1_0_2]
      · simp (disch := omega) only [X_54_0, X_54_1_t, X_54_1_f, X_54_1, X_54_4, X_54_5, X_54_6, X_54_9, X_54_12_t, X_54_12_f, X_54_12, X_54_15, X_54_16, X_54_17, X_54_18, X_54_21, X_54_24, X_54_25, X_54_26, X_54_27, X_54_28, X_54_30, X_54_31_t, X_54_31_f, X_54_31, X_54_34, X_54_35, X_54_38, X_54_41, X_54_44, X_54_47, X_54_48, r1_0_2]
    · rw [C_161]
      simp (disch := omega) only [X_161_0, X_161_1, X_161_2, X_161_3, X_161_4, X_161_7, X_161_9, X_161_10, X_161_11, X_161_14_t, X_161_14_f, X_161_14, X_161_17, X_161_18, X_161_19, X_161_20, X_161_23, X_161_25, X_161_26, X_161_27, X_161_28, X_161_31, X_161_33, X_161_34, X_161_35, X_161_36, X_161_39, X_161_42, X_161_43, X_161_45, X_161_46_t, X_161_46_f, X_161_46, X_161_49, X_161_50, X_161_53, X_161_54, X_161_57, X_161_59, X_161_60, X_161_61, X_161_62, X_161_65, X_161_68, X_161_71, X_161_72, X_161_73, X_161_74, r1_63_0, Int.reduceToNat, S3_in_f, pushR_some]
  obtain ⟨m, rfl⟩ := nat_of h1.1
  generalize eF : putR (h 64) 28 (m : Int) = F
  have cG : ∀ (h' : AH) Q, h' 64 = h 64 → call 29 137 [.inr (.inr (some 64))] G1 (setR h' 64 F) Q = Q none G1 (setR h' 64 (rp F 0)) := fun h' Q e => by
    rw [S3_begin (by omega) (Or.inl rfl), setR_s, setR_2]
    rfl
  have F28 : F 28 = (m : Int) := by rw [← eF, putR_s]
  have Fo : ∀ s, ¬ s = 28 → F s = h 64 s := fun s hs => by rw [← eF, putR_n hs]
  rcases LIV_c H with L | L
  · obtain rfl : m = 0 := by omega
    refine ⟨0, h, setR h 64 (rp F 0), by omega, fun Q => ?_, fun Q => ?_, INV_same (INV_toy H (fun a _ a1 a2 => setR_n (by omega)) (fun k _ => by rw [setR_n (by omega)]) (fun s hs => by rw [setR_n (by omega)]; exact H.2.1 s hs) ⟨?_, ?_, Or.inl ?_, fun s hs => ?_⟩ (fun k hk => KPT_k hk (fun a ha => setR_n (by omega)) (by rw [setR_n (by omega)]) (setR_n (by omega)) (setR_n (by omega)) (H.2.2.2.2.2.1 k hk)))⟩
    · have e0 : h 3 7 - ((0 : Nat) : Int) = 0 := by omega
      rw [C_54]
      simp (disch := omega) only [X_54_0, X_54_1_t, X_54_1_f, X_54_1, X_54_4, X_54_5, X_54_6, X_54_9, X_54_12_t, X_54_12_f, X_54_12, X_54_15, X_54_16, X_54_17, X_54_18, X_54_21, X_54_24, X_54_25, X_54_26, X_54_27, X_54_28, X_54_29, X_54_30, X_54_31_t, X_54_31_f, X_54_31, X_54_34, X_54_35, X_54_38, X_54_41, X_54_44, X_54_47, X_54_48, r1_0_2, fixp_i, e0]
    · have q := L3_undo (d := 29) (m := 0) (F := F) (h := h) (v := h 64 28) (Q := Q) (by omega) (by omega) (fun k hk => by omega) 0 0 rfl
      have e0 : h 64 28 - ((0 : Nat) : Int) = 0 := by omega
      rw [e0] at q
      have cG2 := fun Q => cG h Q rfl
      rw [C_161]
      simp (disch := omega) only [X_161_0, X_161_1, X_161_2, X_161_3, X_161_4, X_161_7, X_161_9, X_161_10, X_161_11, X_161_14_t, X_161_14_f, X_161_14, X_161_17, X_161_18, X_161_19, X_161_20, X_161_23, X_161_25, X_161_26, X_161_27, X_161_28, X_161_31, X_161_33, X_161_34, X_161_35, X_161_36, X_161_39, X_161_42, X_161_43, X_161_45, X_161_46_t, X_161_46_f, X_161_46, X_161_49, X_161_50, X_161_53, X_161_54, X_161_57, X_161_59, X_161_60, X_161_61, X_161_62, X_161_65, X_161_68, X_161_71, X_161_72, X_161_73, X_161_74, r1_63_0, Int.reduceToNat, S3_in_t, pushR_some, pushR_none, put_set, eF, cG2, fixp_i]
      exact q
    · rw [setR_n (by omega), setR_n (by omega), L.2.1, L.1]
    · rw [setR_n (by omega), setR_s]
      show h 3 7 = bgF F 28
      rw [bgF_n (by omega), F28, L.2.2.2.1]
      rfl
    · rw [setR_n (by omega), setR_n (by omega)]
      exact ⟨L.1, L.2.2.1, L.2.2.2.1⟩
    · rw [setR_s]
      show bgF F s = 0
      rw [bgF_n (by omega), Fo s (by omega)]
      exact H.2.2.2.2.1.2.2.2 s hs
  · obtain ⟨L1, L2, L3⟩ := L
    have hf := FUL_ty L3
    have hD := L3.2.2.1
    have hI := L3.2.2.2
    unfold HI at hI
    generalize eN : (h 64 28).toNat = N at hI
    obtain ⟨j, rfl⟩ : ∃ j, N = m + j := ⟨N - m, by omega⟩
    have okf := DR_ok hD (n := m) (by omega)
    have okF : ∀ k, k < m → dOk (F (29 + k)) := fun k hk => by rw [Fo _ (by omega)]; exact okf k hk
    obtain ⟨h', c1, T1, v7, fo, f3⟩ := L_undo (d := 29) (m := m) (f := h 64) (h := h) (v := (m : Int)) (by omega) H.1 hD j 0 h (by omega) (by omega) (by rw [hI]; exact L3.1) (by omega) (fun _ _ => rfl) (fun _ _ _ => rfl)
    have w64 : h' 64 = h 64 := fo 64 (by omega)
    have eRP : rp F m = putR (rp (h 64) m) 28 (m : Int) := by rw [← eF]; exact rp_put (Or.inl rfl) okf
    have LO := rp_lo okf
    have LF := rp_lo okF
    have ty : tyOk (rp (h 64) m) (m : Int) := rp_ty hf.2.2.1 hf.2.2.2.1 okf
    have R28 : rp F m 28 = (m : Int) := by rw [eRP, putR_s]
    have HF : FUL (setR h' 64 (rp F m)) 3 (rp F m) := by
      refine FUL_k (h := h') (fun a ha => setR_n (by omega)) ⟨?_, ?_, ⟨?_, ?_, ?_, fun k hk => ?_⟩, ?_⟩
      · rw [eRP]; exact TR_put (by omega) T1
      · rw [R28, eRP]; exact tyOk_put (by omega) ty
      · rw [R28, v7]
      · rw [R28]; omega
      · rw [R28]; omega
      · rw [R28] at hk
        have q := hD.2.2.2 k (by omega)
        rw [fo (3 + 6) (by omega), LF.2 _ (by omega), Fo _ (by omega)]
        exact q
      · unfold HI
        rw [R28, Int.toNat_natCast]
        exact rp_base (fun s hs => LF.2 s hs) (by omega)
    refine ⟨(j : Int), h', setR h' 64 (rp F m), by omega, fun Q => ?_, fun Q => ?_, INV_same (INV_live H (fun a a1 a2 => by rw [setR_n a2, fo a (by omega)]) L1 (by rw [setR_n (by omega), f3 8 (by omega) (by omega), L2]) (by rw [setR_s]; exact HF) (fun s hs => by rw [setR_s, LF.2 s (by omega), Fo s (by omega)]; exact H.2.2.2.2.1.2.2.2 s hs))⟩
    · have e0 : h 3 7 - (m : Int) = (j : Int) := by omega
      have q := c1 Q
      rw [Nat.zero_add] at q
      rw [C_54]
      simp (disch := omega) only [X_54_0, X_54_1_t, X_54_1_f, X_54_1, X_54_4, X_54_5, X_54_6, X_54_9, X_54_12_t, X_54_12_f, X_54_12, X_54_15, X_54_16, X_54_17, X_54_18, X_54_21, X_54_24, X_54_25, X_54_26, X_54_27, X_54_28, X_54_30, X_54_31_t, X_54_31_f, X_54_31, X_54_34, X_54_35, X_54_38, X_54_41, X_54_44, X_54_47, X_54_48, r1_0_2, fixp_i, e0]
      exact q
    · have q := L3_undo (d := 29) (m := m) (F := F) (h := h') (v := h 64 28) (Q := Q) (by omega) (by omega) okF m 0 (by omega)
      have e0 : h 64 28 - (m : Int) = (j : Int) := by omega
      rw [e0] at q
      have cG2 := fun Q => cG h' Q w64
      rw [C_161]
      simp (disch := omega) only [X_161_0, X_161_1, X_161_2, X_161_3, X_161_4, X_161_7, X_161_9, X_161_10, X_161_11, X_161_14_t, X_161_14_f, X_161_14, X_161_17, X_161_18, X_161_19, X_161_20, X_161_23, X_161_25, X_161_26, X_161_27, X_161_28, X_161_31, X_161_33, X_161_34, X_161_35, X_161_36, X_161_39, X_161_42, X_161_43, X_161_45, X_161_46_t, X_161_46_f, X_161_46, X_161_49, X_161_50, X_161_53, X_161_54, X_161_57, X_161_59, X_161_60, X_161_61, X_161_62, X_161_65, X_161_68, X_161_71, X_161_72, X_161_73, X_161_74, r1_63_0, Int.reduceToNat, S3_in_t, pushR_some, pushR_none, put_set, w64, eF, cG2, fixp_i]
      exact q
