/-! 32: deeds done and undone, toys begun and copied, rings -/
theorem S_makeMove_n {d t : Nat} {h : AH} {Q : Option AV → AG → AH → Prop} (hd : 2 ≤ d) (ht : isToy t) : call d 25 [.inr (.inr (some t)), .inl (-1)] G1 h Q = Q none G1 h := by
  obtain ⟨d, rfl, hd2⟩ := pos_of hd
  rw [C_25]
  simp (disch := omega) only [X_25_0, X_25_1, X_25_4_t, X_25_4_f, X_25_4, X_25_7, X_25_8, X_25_9, X_25_12, X_25_13, X_25_14, X_25_15, X_25_18, X_25_19, X_25_20, X_25_23, X_25_24, X_25_25, X_25_28, S_isMove_f, pushR_some]
theorem S_takeBack_n {d t : Nat} {h : AH} {Q : Option AV → AG → AH → Prop} (hd : 2 ≤ d) (ht : isToy t) : call d 26 [.inr (.inr (some t)), .inl (-1)] G1 h Q = Q none G1 h := by
  obtain ⟨d, rfl, hd2⟩ := pos_of hd
  rw [C_26]
  simp (disch := omega) only [X_26_0, X_26_1, X_26_4_t, X_26_4_f, X_26_4, X_26_7, X_26_8, X_26_9, X_26_10, X_26_11, X_26_14, X_26_15, X_26_16, X_26_17, X_26_20, X_26_21, X_26_22, X_26_25, X_26_26, X_26_27, X_26_30, S_isMove_f, pushR_some]
theorem TR_keep {h h' : AH} {t : Nat} {f : TF} (hT : TR h t f) (h1 : h' (t + 1) = h (t + 1)) (h2 : h' (t + 2) = h (t + 2)) (h3 : h' (t + 3) = h (t + 3)) (h4 : h' (t + 4) = h (t + 4)) (h5 : h' (t + 5) = h (t + 5)) (h6 : h' t 6 = h t 6) : TR h' t f := by
  unfold TR
  rw [h1, h2, h3, h4, h5, h6]
  exact hT
theorem cd_cases {x : Int} (hx : xOk x) : x = -1 ∨ (0 ≤ x ∧ x < 4) ∨ ∃ c e : Nat, c < 14 ∧ e < 14 ∧ x = 4 + 14 * (c : Int) + (e : Int) := by
  unfold xOk at hx
  by_cases h1 : x = -1
  · exact Or.inl h1
  by_cases h2 : x < 4
  · exact Or.inr (Or.inl (by omega))
  · exact Or.inr (Or.inr ⟨((x - 4) / 14).toNat, ((x - 4) % 14).toNat, by omega, by omega, by omega⟩)
theorem dF_ex {f : TF} {c e : Nat} (hc : c < 14) (he : e < 14) : dF f (cd (4 + 14 * (c : Int) + (e : Int))) = exF f c e := by
  have h1 : cd (4 + 14 * (c : Int) + (e : Int)) = 100 + 14 * (c : Int) + (e : Int) := by unfold cd; rw [if_neg (by omega), if_neg (by omega)]; omega
  unfold dF
  rw [h1, if_pos (by omega), show ((100 + 14 * (c : Int) + (e : Int) - 100) / 14).toNat = c by omega, show ((100 + 14 * (c : Int) + (e : Int) - 100) % 14).toNat = e by omega]
theorem dF_mv {f : TF} {x : Int} (hx : 0 ≤ x ∧ x < 4) : dF f (cd x) = mvF f x := by
  have h1 : cd x = x := by unfold cd; rw [if_neg (by omega), if_pos (by omega)]
  unfold dF
  rw [h1, if_neg (by omega), if_neg (by omega)]
theorem dF_no {f : TF} : dF f (cd (-1)) = f := by
  have h1 : cd (-1) = 4 := by unfold cd; rw [if_pos rfl]
  unfold dF
  rw [h1, if_neg (by omega), if_pos rfl]
theorem S_doDeed {d t : Nat} {x : Int} {h : AH} {f : TF} (hd : 4 ≤ d) (ht : isToy t) (hg : h 1000 = rgT) (hx : xOk x) (hn : 0 ≤ h t 7 ∧ h t 7 < 40) (hT : TR h t f) (hf : lieOk f) : ∃ h', (∀ Q, call d 31 [.inr (.inr (some t)), .inl x] G1 h Q = Q none G1 h') ∧ TR h' t (dF f (cd x)) ∧ (∀ a, (a < t ∨ t + 7 ≤ a ∨ a = t + 1 ∨ a = t + 2) → h' a = h a) ∧ h' (t + 6) = putR (h (t + 6)) (h t 7).toNat x ∧ h' t 7 = h t 7 + 1 ∧ ∀ k, ¬ k = 6 → ¬ k = 7 → h' t k = h t k := by
  obtain ⟨d, rfl, hd2⟩ := pos_of hd
  have hs := toy_s ht
  have hr := toy_r ht
  generalize e1 : put (put h (t + 6) (h t 7).toNat x) t 7 (h t 7 + 1) = h1
  have hT1 : TR h1 t f := by
    refine TR_keep hT ?_ ?_ ?_ ?_ ?_ ?_ <;> rw [← e1]
    · rw [put_row (by omega), put_row (by omega)]
    · rw [put_row (by omega), put_row (by omega)]
    · rw [put_row (by omega), put_row (by omega)]
    · rw [put_row (by omega), put_row (by omega)]
    · rw [put_row (by omega), put_row (by omega)]
    · rw [put_nk (by omega), put_row (by omega)]
  have g1 : h1 1000 = rgT := by rw [← e1, put_row (by omega), put_row (by omega), hg]
  have fin : ∀ h' : AH, (∀ a, (a < t ∨ t + 6 ≤ a ∨ a = t + 1 ∨ a = t + 2) → h' a = h1 a) → (∀ k, ¬ k = 6 → h' t k = h1 t k) → (∀ a, (a < t ∨ t + 7 ≤ a ∨ a = t + 1 ∨ a = t + 2) → h' a = h a) ∧ h' (t + 6) = putR (h (t + 6)) (h t 7).toNat x ∧ h' t 7 = h t 7 + 1 ∧ ∀ k, ¬ k = 6 → ¬ k = 7 → h' t k = h t k := by
    intro h' u1 u2
    refine ⟨fun a ha => ?_, ?_, ?_, fun k k1 k2 => ?_⟩
    · rw [u1 a (by omega), ← e1, put_row (by omega), put_row (by omega)]
    · rw [u1 (t + 6) (by omega), ← e1, put_row (by omega), put_set, setR_s]
    · rw [u2 7 (by omega), ← e1, put_s]
    · rw [u2 k k1, ← e1, put_nk k2, put_row (by omega)]
  rcases cd_cases hx with rfl | hx4 | ⟨c, e, hc, he, rfl⟩
  · refine ⟨h1, fun Q => ?_, by rw [dF_no]; exact hT1, fin h1 (fun _ _ => rfl) (fun _ _ => rfl)⟩
    have hmm : ∀ Q, call d 25 [.inr (.inr (some t)), .inl (-1)] G1 h1 Q = Q none G1 h1 := fun Q => S_makeMove_n (by omega) ht
    rw [C_31]
    simp (disch := omega) only [X_31_0, X_31_1, X_31_4_t, X_31_4_f, X_31_4, X_31_7, X_31_8, X_31_11, X_31_13_t, X_31_13_f, X_31_13, X_31_16, X_31_17, X_31_18, X_31_21, X_31_22, X_31_25, X_31_26, X_31_27, X_31_28, X_31_29, X_31_32, X_31_33, X_31_34, X_31_37, X_31_38, X_31_39_t, X_31_39_f, X_31_39, X_31_42, X_31_43, X_31_44, X_31_47, X_31_50, X_31_51, X_31_52, X_31_55, hr, put_nk, put_row, e1, hmm, pushR_none]
  · obtain ⟨h2, c2, T2, F2⟩ := S_makeMove (d := d) (m := x) hd2 ht g1 hx4 hT1 hf
    refine ⟨h2, fun Q => ?_, by rw [dF_mv hx4]; exact T2, fin h2 F2.1 F2.2⟩
    rw [C_31]
    simp (disch := omega) only [X_31_0, X_31_1, X_31_4_t, X_31_4_f, X_31_4, X_31_7, X_31_8, X_31_11, X_31_13_t, X_31_13_f, X_31_13, X_31_16, X_31_17, X_31_18, X_31_21, X_31_22, X_31_25, X_31_26, X_31_27, X_31_28, X_31_29, X_31_32, X_31_33, X_31_34, X_31_37, X_31_38, X_31_39_t, X_31_39_f, X_31_39, X_31_42, X_31_43, X_31_44, X_31_47, X_31_50, X_31_51, X_31_52, X_31_55, hr, put_nk, put_row, e1, c2, pushR_none]
  · obtain ⟨h2, c2, T2, F2⟩ := S_swap (d := d) (c := c) (e := e) (by omega) ht hc he hT1 hf
    refine ⟨h2, fun Q => ?_, by rw [dF_ex hc he]; exact T2, fin h2 F2.1 F2.2⟩
    rw [C_31]
    simp (disch := omega) only [X_31_0, X_31_1, X_31_4_t, X_31_4_f, X_31_4, X_31_7, X_31_8, X_31_11, X_31_13_t, X_31_13_f, X_31_13, X_31_16, X_31_17, X_31_18, X_31_21, X_31_22, X_31_25, X_31_26, X_31_27, X_31_28, X_31_29, X_31_32, X_31_33, X_31_34, X_31_37, X_31_38, X_31_39_t, X_31_39_f, X_31_39, X_31_42, X_31_43, X_31_44, X_31_47, X_31_50, X_31_51, X_31_52, X_31_55, hr, put_nk, put_row, e1, c2, pushR_none]
theorem S_undoLast {d t : Nat} {x : Int} {h : AH} {g : TF} (hd : 4 ≤ d) (ht : isToy t) (hg : h 1000 = rgT) (hx : xOk x) (hn : 0 < h t 7 ∧ h t 7 ≤ 40) (hxe : h (t + 6) (h t 7 - 1).toNat = x) (hT : TR h t (dF g (cd x))) (hf : lieOk g) : ∃ h', (∀ Q, call d 32 [.inr (.inr (some t))] G1 h Q = Q none G1 h') ∧ TR h' t g ∧ (∀ a, (a < t ∨ t + 6 ≤ a ∨ a = t + 1 ∨ a = t + 2) → h' a = h a) ∧ h' t 7 = h t 7 - 1 ∧ ∀ k, ¬ k = 6 → ¬ k = 7 → h' t k = h t k := by
  obtain ⟨d, rfl, hd2⟩ := pos_of hd
  have hs := toy_s ht
  have hr := toy_r ht
  generalize e1 : put h t 7 (h t 7 - 1) = h1
  have hT1 : TR h1 t (dF g (cd x)) := by
    refine TR_keep hT ?_ ?_ ?_ ?_ ?_ ?_ <;> rw [← e1]
    · rw [put_row (by omega)]
    · rw [put_row (by omega)]
    · rw [put_row (by omega)]
    · rw [put_row (by omega)]
    · rw [put_row (by omega)]
    · rw [put_nk (by omega)]
  have g1 : h1 1000 = rgT := by rw [← e1, put_row (by omega), hg]
  have v7 : h1 t 7 = h t 7 - 1 := by rw [← e1, put_s]
  have v6 : h1 (t + 6) (h t 7 - 1).toNat = x := by rw [← e1, put_row (by omega), hxe]
  have fin : ∀ h' : AH, (∀ a, (a < t ∨ t + 6 ≤ a ∨ a = t + 1 ∨ a = t + 2) → h' a = h1 a) → (∀ k, ¬ k = 6 → h' t k = h1 t k) → (∀ a, (a < t ∨ t + 6 ≤ a ∨ a = t + 1 ∨ a = t + 2) → h' a = h a) ∧ h' t 7 = h t 7 - 1 ∧ ∀ k, ¬ k = 6 → ¬ k = 7 → h' t k = h t k := by
    intro h' u1 u2
    refine ⟨fun a ha => ?_, ?_, fun k k1 k2 => ?_⟩
    · rw [u1 a ha, ← e1, put_row (by omega)]
    · rw [u2 7 (by omega), v7]
    · rw [u2 k k1, ← e1, put_nk k2]
  rcases cd_cases hx with rfl | hx4 | ⟨c, e, hc, he, rfl⟩
  · rw [dF_no] at hT1
    refine ⟨h1, fun Q => ?_, hT1, fin h1 (fun _ _ => rfl) (fun _ _ => rfl)⟩
    have hmm : ∀ Q, call d 26 [.inr (.inr (some t)), .inl (-1)] G1 h1 Q = Q none G1 h1 := fun Q => S_takeBack_n (by omega) ht
    rw [C_32]
    simp (disch := omega) only [X_32_0, X_32_1, X_32_4_t, X_32_4_f, X_32_4, X_32_7, X_32_8, X_32_11, X_32_13_t, X_32_13_f, X_32_13, X_32_16, X_32_17, X_32_18, X_32_19, X_32_22, X_32_23, X_32_24, X_32_27, X_32_28, X_32_31, X_32_32, X_32_35, X_32_36, X_32_37, X_32_38, X_32_39_t, X_32_39_f, X_32_39, X_32_42, X_32_43, X_32_44, X_32_47, X_32_50, X_32_51, X_32_52, X_32_55, hr, e1, v7, v6, hmm, pushR_none, fixp_r]
  · rw [dF_mv hx4] at hT1
    obtain ⟨h2, c2, T2, F2⟩ := S_takeBack (d := d) (m := x) hd2 ht g1 hx4 hT1 hf
    refine ⟨h2, fun Q => ?_, T2, fin h2 F2.1 F2.2⟩
    rw [C_32]
    simp (disch := omega) only [X_32_0, X_32_1, X_32_4_t, X_32_4_f, X_32_4, X_32_7, X_32_8, X_32_11, X_32_13_t, X_32_13_f, X_32_13, X_32_16, X_32_17, X_32_18, X_32_19, X_32_22, X_32_23, X_32_24, X_32_27, X_32_28, X_32_31, X_32_32, X_32_35, X_32_36, X_32_37, X_32_38, X_32_39_t, X_32_39_f, X_32_39, X_32_42, X_32_43, X_32_44, X_32_47, X_32_50, X_32_51, X_32_52, X_32_55, hr, e1, v7, v6, c2, pushR_none, fixp_r]
  · rw [dF_ex hc he] at hT1
    obtain ⟨h2, c2, T2, F2⟩ := S_swap (d := d) (c := c) (e := e) (by omega) ht hc he hT1 (exF_ok hc he hf)
    rw [exF_2 hc he] at T2
    refine ⟨h2, fun Q => ?_, T2, fin h2 F2.1 F2.2⟩
    rw [C_32]
    simp (disch := omega) only [X_32_0, X_32_1, X_32_4_t, X_32_4_f, X_32_4, X_32_7, X_32_8, X_32_11, X_32_13_t, X_32_13_f, X_32_13, X_32_16, X_32_17, X_32_18, X_32_19, X_32_22, X_32_23, X_32_24, X_32_27, X_32_28, X_32_31, X_32_32, X_32_35, X_32_36, X_32_37, X_32_38, X_32_39_t, X_32_39_f, X_32_39, X_32_42, X_32_43, X_32_44, X_32_47, X_32_50, X_32_51, X_32_52, X_32_55, hr, e1, v7, v6, c2, pushR_none, fixp_r]
def mixR (n : Nat) (f g : TF) : TF := fun s => if s < n then f s else g s
theorem mix_0 {f g : TF} : mixR 0 f g = g := by funext s; unfold mixR; rw [if_neg (by omega)]
theorem mix_put {n : Nat} {f g : TF} : putR (mixR n f g) n (f n) = mixR (n + 1) f g := by
  funext s
  unfold putR mixR
  by_cases e : s = n
  · subst e; rw [if_pos rfl, if_pos (by omega)]
  · rw [if_neg e]
    by_cases e2 : s < n
    · rw [if_pos e2, if_pos (by omega)]
    · rw [if_neg e2, if_neg (by omega)]
theorem mix_lt {n s : Nat} {f g : TF} (h : s < n) : mixR n f g s = f s := by unfold mixR; rw [if_pos h]
theorem mix_ge {n s : Nat} {f g : TF} (h : n ≤ s) : mixR n f g s = g s := by unfold mixR; rw [if_neg (by omega)]
/-- a row as a toy begins -/
def bgF (f : TF) : TF := fun s => if 69 ≤ s ∧ s < 83 then (s : Int) - 69 else if 83 ≤ s ∧ s < 98 then 0 else f s
theorem bgF_lie {f : TF} {c : Nat} (hc : c < 14) : bgF f (69 + c) = (c : Int) := by unfold bgF; rw [if_pos (by omega)]; omega
theorem bgF_brn {f : TF} {s : Nat} (hc : 83 ≤ s ∧ s < 98) : bgF f s = 0 := by unfold bgF; rw [if_neg (by omega), if_pos hc]
theorem bgF_n {f : TF} {s : Nat} (hc : s < 69 ∨ 98 ≤ s) : bgF f s = f s := by unfold bgF; rw [if_neg (by omega), if_neg (by omega)]
theorem bgF_ok {f : TF} : lieOk (bgF f) := ⟨fun c hc => by rw [bgF_lie hc]; omega, fun c hc e he q => by rw [bgF_lie hc, bgF_lie he] at q; omega⟩
theorem bgF_ty {f : TF} (h1 : ∀ i, i < 14 → 0 ≤ f i ∧ f i ≤ 5) (h2 : ∀ i, i < 14 → 0 ≤ f (14 + i) ∧ f (14 + i) ≤ 9) : tyOk (bgF f) 0 := by
  refine ⟨bgF_ok, fun i hi => ⟨i, hi, bgF_lie hi⟩, fun i hi => ?_, fun i hi => ?_, fun i hi => ?_, ?_, ?_⟩
  · rw [bgF_n (by omega)]; exact h1 i hi
  · rw [bgF_n (by omega)]; exact h2 i hi
  · rw [bgF_brn (by omega), bgF_brn (by omega)]; omega
  · rw [bgF_brn (by omega)]; omega
  · rw [bgF_brn (by omega)]; omega
theorem S_begin {d t : Nat} {h : AH} {f : TF} (hd : 1 ≤ d) (ht : isToy t) (hk : ∀ i, i < 14 → h (t + 1) i = f i) (hc : ∀ i, i < 14 → h (t + 2) i = f (14 + i)) : ∃ h', (∀ Q, call d 11 [.inr (.inr (some t))] G1 h Q = Q none G1 h') ∧ TR h' t (bgF f) ∧ (∀ a, (a < t ∨ t + 6 ≤ a ∨ a = t + 1 ∨ a = t + 2) → h' a = h a) ∧ h' t 7 = 0 ∧ h' t 8 = 1 ∧ ∀ k, k < 6 → h' t k = h t k := by
  obtain ⟨d, rfl, hd2⟩ := pos_of hd
  have hs := toy_s ht
  have hr := toy_r ht
  generalize eh : setR (setR (setR h (t + 3) (mixR 14 (fun s => (s : Int)) (h (t + 3)))) (t + 5) (mixR 14 (fun s => (s : Int)) (h (t + 5)))) (t + 4) (mixR 14 (fun _ => 0) (h (t + 4))) = h1
  generalize eh2 : put (put (put h1 t 6 0) t 7 0) t 8 1 = h2
  have L : ∀ (n i : Nat) (Q : Option AV → AG → AH → Prop), i + n = 14 → wp d 11 2 [some (.inr (.inr (some t))), some (.inl (i : Int))] [] G1 (setR (setR (setR h (t + 3) (mixR i (fun s => (s : Int)) (h (t + 3)))) (t + 5) (mixR i (fun s => (s : Int)) (h (t + 5)))) (t + 4) (mixR i (fun _ => 0) (h (t + 4)))) Q = Q none G1 h2 := by
    intro n
    induction n with
    | zero =>
      intro i Q hi
      obtain rfl : i = 14 := by omega
      rw [eh]
      simp (disch := omega) only [X_11_2, X_11_0, X_11_1, X_11_3, X_11_5_t, X_11_5_f, X_11_5, X_11_8, X_11_9, X_11_12, X_11_13, X_11_14, X_11_15, X_11_16, X_11_19, X_11_20, X_11_21, X_11_22, X_11_23, X_11_26, X_11_27, X_11_28, X_11_29, X_11_32, X_11_35, X_11_36, X_11_37, X_11_40, X_11_41, X_11_42, X_11_45, X_11_46, X_11_47, X_11_50, eh2]
    | succ n ih =>
      intro i Q hi
      rw [X_11_2]
      simp (disch := omega) only [X_11_0, X_11_1, X_11_3, X_11_5_t, X_11_5_f, X_11_5, X_11_8, X_11_9, X_11_12, X_11_13, X_11_14, X_11_15, X_11_16, X_11_19, X_11_20, X_11_21, X_11_22, X_11_23, X_11_26, X_11_27, X_11_28, X_11_29, X_11_32, X_11_35, X_11_36, X_11_37, X_11_40, X_11_41, X_11_42, X_11_45, X_11_46, X_11_47, X_11_50, hr, Int.toNat_natCast, fixp_r, natS, put_set, setR_s, setR_n, setR_2, setR_c]
      rw [← ih (i + 1) Q (by omega), ← mix_put (f := fun s => (s : Int)), ← mix_put (f := fun s => (s : Int)), ← mix_put (f := fun _ => 0)]
      congr 1
      funext b
      unfold setR
      by_cases b4 : b = t + 4
      · subst b4; simp
      · by_cases b5 : b = t + 5
        · subst b5; simp
        · by_cases b3 : b = t + 3
          · subst b3; simp
          · simp [b3, b4, b5]
  have q3 : h1 (t + 3) = mixR 14 (fun s => (s : Int)) (h (t + 3)) := by rw [← eh, setR_n (by omega), setR_n (by omega), setR_s]
  have q5 : h1 (t + 5) = mixR 14 (fun s => (s : Int)) (h (t + 5)) := by rw [← eh, setR_n (by omega), setR_s]
  have q4 : h1 (t + 4) = mixR 14 (fun _ => 0) (h (t + 4)) := by rw [← eh, setR_s]
  have qo : ∀ a, ¬ a = t + 3 → ¬ a = t + 4 → ¬ a = t + 5 → h1 a = h a := fun a z1 z2 z3 => by rw [← eh, setR_n z2, setR_n z3, setR_n z1]
  refine ⟨h2, fun Q => ?_, ⟨fun i hi => ?_, fun i hi => ?_, fun c hc => ?_, fun i hi => ?_, ?_, fun c hc => ?_⟩, fun a ha => ?_, ?_, ?_, fun k hk => ?_⟩
  · rw [C_11]
    simp (disch := omega) only [X_11_0, X_11_1, X_11_3, X_11_5_t, X_11_5_f, X_11_5, X_11_8, X_11_9, X_11_12, X_11_13, X_11_14, X_11_15, X_11_16, X_11_19, X_11_20, X_11_21, X_11_22, X_11_23, X_11_26, X_11_27, X_11_28, X_11_29, X_11_32, X_11_35, X_11_36, X_11_37, X_11_40, X_11_41, X_11_42, X_11_45, X_11_46, X_11_47, X_11_50, fixp_r]
    have q := L 14 0 Q rfl
    rw [mix_0, mix_0, mix_0, setR_e, setR_e, setR_e] at q
    exact q
  · rw [← eh2, put_row (by omega), put_row (by omega), put_row (by omega), qo _ (by omega) (by omega) (by omega), hk i hi, bgF_n (by omega)]
  · rw [← eh2, put_row (by omega), put_row (by omega), put_row (by omega), qo _ (by omega) (by omega) (by omega), hc i hi, bgF_n (by omega)]
  · rw [← eh2, put_row (by omega), put_row (by omega), put_row (by omega), q5, mix_lt hc, bgF_lie hc]
  · rw [← eh2, put_row (by omega), put_row (by omega), put_row (by omega), q4, mix_lt hi, bgF_brn (by omega)]
  · rw [← eh2, put_nk (by omega), put_nk (by omega), put_s, bgF_brn (by omega)]
  · rw [← eh2, put_row (by omega), put_row (by omega), put_row (by omega), q3, bgF_lie hc, Int.toNat_natCast, mix_lt hc]
  · rw [← eh2, put_row (by omega), put_row (by omega), put_row (by omega), qo _ (by omega) (by omega) (by omega)]
  · rw [← eh2, put_nk (by omega), put_s]
  · rw [← eh2, put_s]
  · rw [← eh2, put_nk (by omega), put_nk (by omega), put_nk (by omega), qo _ (by omega) (by omega) (by omega)]
theorem S3_begin {d a : Nat} {h : AH} {Q : Option AV → AG → AH → Prop} (hd : 1 ≤ d) (ha : isA a) : call d 137 [.inr (.inr (some a))] G1 h Q = Q none G1 (setR h a (bgF (h a))) := by
  obtain ⟨d, rfl, hd2⟩ := pos_of hd
  have hs := isA_s ha
  have L : ∀ (n i : Nat), i + n = 14 → wp d 137 2 [some (.inr (.inr (some a))), some (.inl (i : Int))] [] G1 (setR h a (fun s => if 69 ≤ s ∧ s < 69 + i then (s : Int) - 69 else if 83 ≤ s ∧ s < 83 + i then 0 else h a s)) Q = Q none G1 (setR h a (bgF (h a))) := by
    intro n
    induction n with
    | zero =>
      intro i hi
      obtain rfl : i = 14 := by omega
      simp (disch := omega) only [X_137_2, X_137_0, X_137_1, X_137_3, X_137_5_t, X_137_5_f, X_137_5, X_137_8, X_137_9, X_137_11, X_137_12, X_137_13, X_137_14, X_137_15, X_137_16, X_137_18, X_137_19, X_137_20, X_137_21, X_137_22, X_137_25, X_137_28, X_137_29, X_137_31, X_137_32, X_137_33, put_set, setR_s, setR_2, Int.reduceToNat]
      congr 2
      funext s
      unfold putR bgF
      dsimp only
      (repeat' split) <;> omega
    | succ n ih =>
      intro i hi
      have e0 : ((69 : Int) + (i : Int)).toNat = 69 + i := by omega
      have e1 : ((83 : Int) + (i : Int)).toNat = 83 + i := by omega
      rw [X_137_2]
      simp (disch := omega) only [X_137_0, X_137_1, X_137_3, X_137_5_t, X_137_5_f, X_137_5, X_137_8, X_137_9, X_137_11, X_137_12, X_137_13, X_137_14, X_137_15, X_137_16, X_137_18, X_137_19, X_137_20, X_137_21, X_137_22, X_137_25, X_137_28, X_137_29, X_137_31, X_137_32, X_137_33, e0, e1, fixp_r, natS, put_set, setR_s, setR_2]
      rw [← ih (i + 1) (by omega)]
      congr 2
      funext s
      unfold putR
      dsimp only
      (repeat' split) <;> omega
  have e0 : setR h a (fun s => if 69 ≤ s ∧ s < 69 + 0 then (s : Int) - 69 else if 83 ≤ s ∧ s < 83 + 0 then 0 else h a s) = h := by
    have : (fun s : Nat => if 69 ≤ s ∧ s < 69 + 0 then (s : Int) - 69 else if 83 ≤ s ∧ s < 83 + 0 then 0 else h a s) = h a := by
      funext s
      rw [if_neg (by omega), if_neg (by omega)]
    rw [this, setR_e]
  have q := L 14 0 rfl
  rw [e0] at q
  rw [C_137]
  simp (disch := omega) only [X_137_0, X_137_1, X_137_3, X_137_5_t, X_137_5_f, X_137_5, X_137_8, X_137_9, X_137_11, X_137_12, X_137_13, X_137_14, X_137_15, X_137_16, X_137_18, X_137_19, X_137_20, X_137_21, X_137_22, X_137_25, X_137_28, X_137_29, X_137_31, X_137_32, X_137_33, fixp_r]
  exact q
/-- a stretch of a row copied -/
def cpy (h : AH) (a b n : Nat) : AH := setR h a (mixR n (h b) (h a))
theorem cop_eq {h : AH} {a b : Nat} {n : Int} (hn : 0 ≤ n) : (fun a' k' => if a' = a ∧ (0 : Int) ≤ (k' : Int) ∧ (k' : Int) < 0 + n then h b ((0 : Int).toNat + (k' - (0 : Int).toNat)) else h a' k' : AH) = cpy h a b n.toNat := by
  funext a' k'
  unfold cpy setR mixR
  by_cases e : a' = a
  · subst e
    by_cases e2 : k' < n.toNat
    · rw [if_pos ⟨rfl, by omega, by omega⟩, if_pos rfl, if_pos e2]
      simp
    · rw [if_neg (by omega), if_pos rfl, if_neg e2]
  · rw [if_neg (fun q => e q.1), if_neg e]
theorem cpy_n {h : AH} {a b n c : Nat} (hc : ¬ c = a) : cpy h a b n c = h c := by unfold cpy; rw [setR_n hc]
theorem cpy_s {h : AH} {a b n : Nat} : cpy h a b n a = mixR n (h b) (h a) := by unfold cpy; rw [setR_s]
theorem XC_12_12 {d : Nat} {l0 l1 : Option AV} {n : Int} {a0 b0 : Nat} {h : AH} {Q : Option AV → AG → AH → Prop} (hk : a0 < 1000 ∧ b0 < 1000 ∧ (shp G1 a0).1 = 0 ∧ (shp G1 b0).1 = 0 ∧ 0 ≤ n ∧ n ≤ (shp G1 b0).2 ∧ n ≤ (shp G1 a0).2 ∧ (shp G1 a0).2 ≤ 100000 ∧ (shp G1 b0).2 ≤ 100000) : wp d 12 12 [l0, l1] (.inl n :: .inl 0 :: .inr (.inr (some a0)) :: .inl 0 :: .inr (.inr (some b0)) :: []) G1 h Q = wp d 12 15 [l0, l1] [] G1 (cpy h a0 b0 n.toNat) Q := by rw [X_12_12 (by omega), cop_eq (by omega)]
theorem XC_12_27 {d : Nat} {l0 l1 : Option AV} {n : Int} {a0 b0 : Nat} {h : AH} {Q : Option AV → AG → AH → Prop} (hk : a0 < 1000 ∧ b0 < 1000 ∧ (shp G1 a0).1 = 0 ∧ (shp G1 b0).1 = 0 ∧ 0 ≤ n ∧ n ≤ (shp G1 b0).2 ∧ n ≤ (shp G1 a0).2 ∧ (shp G1 a0).2 ≤ 100000 ∧ (shp G1 b0).2 ≤ 100000) : wp d 12 27 [l0, l1] (.inl n :: .inl 0 :: .inr (.inr (some a0)) :: .inl 0 :: .inr (.inr (some b0)) :: []) G1 h Q = wp d 12 30 [l0, l1] [] G1 (cpy h a0 b0 n.toNat) Q := by rw [X_12_27 (by omega), cop_eq (by omega)]
theorem XC_12_42 {d : Nat} {l0 l1 : Option AV} {n : Int} {a0 b0 : Nat} {h : AH} {Q : Option AV → AG → AH → Prop} (hk : a0 < 1000 ∧ b0 < 1000 ∧ (shp G1 a0).1 = 0 ∧ (shp G1 b0).1 = 0 ∧ 0 ≤ n ∧ n ≤ (shp G1 b0).2 ∧ n ≤ (shp G1 a0).2 ∧ (shp G1 a0).2 ≤ 100000 ∧ (shp G1 b0).2 ≤ 100000) : wp d 12 42 [l0, l1] (.inl n :: .inl 0 :: .inr (.inr (some a0)) :: .inl 0 :: .inr (.inr (some b0)) :: []) G1 h Q = wp d 12 45 [l0, l1] [] G1 (cpy h a0 b0 n.toNat) Q := by rw [X_12_42 (by omega), cop_eq (by omega)]
theorem XC_12_57 {d : Nat} {l0 l1 : Option AV} {n : Int} {a0 b0 : Nat} {h : AH} {Q : Option AV → AG → AH → Prop} (hk : a0 < 1000 ∧ b0 < 1000 ∧ (shp G1 a0).1 = 0 ∧ (shp G1 b0).1 = 0 ∧ 0 ≤ n ∧ n ≤ (shp G1 b0).2 ∧ n ≤ (shp G1 a0).2 ∧ (shp G1 a0).2 ≤ 100000 ∧ (shp G1 b0).2 ≤ 100000) : wp d 12 57 [l0, l1] (.inl n :: .inl 0 :: .inr (.inr (some a0)) :: .inl 0 :: .inr (.inr (some b0)) :: []) G1 h Q = wp d 12 60 [l0, l1] [] G1 (cpy h a0 b0 n.toNat) Q := by rw [X_12_57 (by omega), cop_eq (by omega)]
theorem XC_12_72 {d : Nat} {l0 l1 : Option AV} {n : Int} {a0 b0 : Nat} {h : AH} {Q : Option AV → AG → AH → Prop} (hk : a0 < 1000 ∧ b0 < 1000 ∧ (shp G1 a0).1 = 0 ∧ (shp G1 b0).1 = 0 ∧ 0 ≤ n ∧ n ≤ (shp G1 b0).2 ∧ n ≤ (shp G1 a0).2 ∧ (shp G1 a0).2 ≤ 100000 ∧ (shp G1 b0).2 ≤ 100000) : wp d 12 72 [l0, l1] (.inl n :: .inl 0 :: .inr (.inr (some a0)) :: .inl 0 :: .inr (.inr (some b0)) :: []) G1 h Q = wp d 12 75 [l0, l1] [] G1 (cpy h a0 b0 n.toNat) Q := by rw [X_12_72 (by omega), cop_eq (by omega)]
theorem XC_13_12 {d : Nat} {l0 l1 : Option AV} {n : Int} {a0 b0 : Nat} {h : AH} {Q : Option AV → AG → AH → Prop} (hk : a0 < 1000 ∧ b0 < 1000 ∧ (shp G1 a0).1 = 0 ∧ (shp G1 b0).1 = 0 ∧ 0 ≤ n ∧ n ≤ (shp G1 b0).2 ∧ n ≤ (shp G1 a0).2 ∧ (shp G1 a0).2 ≤ 100000 ∧ (shp G1 b0).2 ≤ 100000) : wp d 13 12 [l0, l1] (.inl n :: .inl 0 :: .inr (.inr (some a0)) :: .inl 0 :: .inr (.inr (some b0)) :: []) G1 h Q = wp d 13 15 [l0, l1] [] G1 (cpy h a0 b0 n.toNat) Q := by rw [X_13_12 (by omega), cop_eq (by omega)]
theorem S_takeBeads {d t u : Nat} {h : AH} {f : TF} (hd : 1 ≤ d) (ht : isToy t) (hu : isToy u) (hne : t ≠ u) (hT : TR h u f) (h01 : h u 8 = 0 ∨ h u 8 = 1) (hf : lieOk f) : ∃ h', (∀ Q, call d 12 [.inr (.inr (some t)), .inr (.inr (some u))] G1 h Q = Q none G1 h') ∧ TR h' t f ∧ (∀ a, (a < t ∨ t + 6 ≤ a) → h' a = h a) ∧ h' t 8 = h u 8 ∧ ∀ k, ¬ k = 6 → ¬ k = 8 → h' t k = h t k := by
  obtain ⟨d, rfl, hd2⟩ := pos_of hd
  have hs := toy_s ht
  have hr := toy_r ht
  have hs2 := toy_s hu
  have hr2 := toy_r hu
  have hap : t + 6 < u ∨ u + 6 < t := by unfold isToy at ht hu; omega
  generalize e1 : cpy (cpy (cpy (cpy (cpy h (t + 1) (u + 1) 14) (t + 2) (u + 2) 14) (t + 3) (u + 3) 14) (t + 4) (u + 4) 14) (t + 5) (u + 5) 14 = h1
  have qo : ∀ a, ¬ a = t + 1 → ¬ a = t + 2 → ¬ a = t + 3 → ¬ a = t + 4 → ¬ a = t + 5 → h1 a = h a := fun a z1 z2 z3 z4 z5 => by rw [← e1, cpy_n z5, cpy_n z4, cpy_n z3, cpy_n z2, cpy_n z1]
  have q1 : h1 (t + 1) = mixR 14 (h (u + 1)) (h (t + 1)) := by rw [← e1, cpy_n (by omega), cpy_n (by omega), cpy_n (by omega), cpy_n (by omega), cpy_s]
  have q2 : h1 (t + 2) = mixR 14 (h (u + 2)) (h (t + 2)) := by rw [← e1, cpy_n (by omega), cpy_n (by omega), cpy_n (by omega), cpy_s, cpy_n (by omega), cpy_n (by omega)]
  have q3 : h1 (t + 3) = mixR 14 (h (u + 3)) (h (t + 3)) := by rw [← e1, cpy_n (by omega), cpy_n (by omega), cpy_s, cpy_n (by omega), cpy_n (by omega), cpy_n (by omega), cpy_n (by omega)]
  have q4 : h1 (t + 4) = mixR 14 (h (u + 4)) (h (t + 4)) := by rw [← e1, cpy_n (by omega), cpy_s]; simp (disch := omega) only [cpy_n]
  have q5 : h1 (t + 5) = mixR 14 (h (u + 5)) (h (t + 5)) := by rw [← e1, cpy_s]; simp (disch := omega) only [cpy_n]
  have qu : h1 u = h u := qo u (by omega) (by omega) (by omega) (by omega) (by omega)
  refine ⟨put (put h1 t 6 (h u 6)) t 8 (h u 8), fun Q => ?_, ⟨fun i hi => ?_, fun i hi => ?_, fun c hc => ?_, fun i hi => ?_, ?_, fun c hc => ?_⟩, fun a ha => ?_, ?_, fun k k1 k2 => ?_⟩
  · rw [C_12]
    simp (disch := omega) only [X_12_0, X_12_1, X_12_4, X_12_5, X_12_6, X_12_9, X_12_10, XC_12_12, X_12_15, X_12_16, X_12_19, X_12_20, X_12_21, X_12_24, X_12_25, XC_12_27, X_12_30, X_12_31, X_12_34, X_12_35, X_12_36, X_12_39, X_12_40, XC_12_42, X_12_45, X_12_46, X_12_49, X_12_50, X_12_51, X_12_54, X_12_55, XC_12_57, X_12_60, X_12_61, X_12_64, X_12_65, X_12_66, X_12_69, X_12_70, XC_12_72, X_12_75, X_12_76, X_12_77, X_12_80, X_12_83, X_12_84, X_12_85, X_12_88, X_12_91, hr, hr2, Int.reduceToNat, e1, put_row, qu]
  · rw [put_row (by omega), put_row (by omega), q1, mix_lt hi, hT.1 i hi]
  · rw [put_row (by omega), put_row (by omega), q2, mix_lt hi, hT.2.1 i hi]
  · rw [put_row (by omega), put_row (by omega), q5, mix_lt hc, hT.2.2.1 c hc]
  · rw [put_row (by omega), put_row (by omega), q4, mix_lt hi, hT.2.2.2.1 i hi]
  · rw [put_nk (by omega), put_s, hT.2.2.2.2.1]
  · have := hf.1 c hc
    rw [put_row (by omega), put_row (by omega), q3, mix_lt (by omega), hT.2.2.2.2.2 c hc]
  · rw [put_row (by omega), put_row (by omega), qo a (by omega) (by omega) (by omega) (by omega) (by omega)]
  · rw [put_s]
  · rw [put_nk k2, put_nk k1, qo t (by omega) (by omega) (by omega) (by omega) (by omega)]
theorem S_takeDeeds {d t u : Nat} {h : AH} {Q : Option AV → AG → AH → Prop} (hd : 1 ≤ d) (ht : isToy t) (hu : isToy u) (hne : t ≠ u) : call d 13 [.inr (.inr (some t)), .inr (.inr (some u))] G1 h Q = Q none G1 (put (cpy h (t + 6) (u + 6) 40) t 7 (h u 7)) := by
  obtain ⟨d, rfl, hd2⟩ := pos_of hd
  have hs := toy_s ht
  have hr := toy_r ht
  have hs2 := toy_s hu
  have hr2 := toy_r hu
  have hap : t + 6 < u ∨ u + 6 < t := by unfold isToy at ht hu; omega
  rw [C_13]
  simp (disch := omega) only [X_13_0, X_13_1, X_13_4, X_13_5, X_13_6, X_13_9, X_13_10, XC_13_12, X_13_15, X_13_16, X_13_17, X_13_20, X_13_23, hr, hr2, Int.reduceToNat, cpy_n]
theorem S_setKind {d t i : Nat} {v : Int} {h : AH} {Q : Option AV → AG → AH → Prop} (hd : 1 ≤ d) (ht : isToy t) (hi : i < 14) : call d 14 [.inr (.inr (some t)), .inl (i : Int), .inl v] G1 h Q = Q none G1 (put h (t + 1) i v) := by
  obtain ⟨d, rfl, hd2⟩ := pos_of hd
  have hs := toy_s ht
  have hr := toy_r ht
  rw [C_14]
  simp (disch := omega) only [X_14_0, X_14_1_t, X_14_1_f, X_14_1, X_14_4, X_14_5, X_14_7_t, X_14_7_f, X_14_7, X_14_10, X_14_11, X_14_14, X_14_15, X_14_16, X_14_17, hr, Int.toNat_natCast]
theorem S_setColour {d t i : Nat} {v : Int} {h : AH} {Q : Option AV → AG → AH → Prop} (hd : 1 ≤ d) (ht : isToy t) (hi : i < 14) : call d 15 [.inr (.inr (some t)), .inl (i : Int), .inl v] G1 h Q = Q none G1 (put h (t + 2) i v) := by
  obtain ⟨d, rfl, hd2⟩ := pos_of hd
  have hs := toy_s ht
  have hr := toy_r ht
  rw [C_15]
  simp (disch := omega) only [X_15_0, X_15_1_t, X_15_1_f, X_15_1, X_15_4, X_15_5, X_15_7_t, X_15_7_f, X_15_7, X_15_10, X_15_11, X_15_14, X_15_15, X_15_16, X_15_17, hr, Int.toNat_natCast]
theorem TR_kind {h : AH} {t i : Nat} {v : Int} {f : TF} (hT : TR h t f) (hi : i < 14) : TR (put h (t + 1) i v) t (putR f i v) := by
  obtain ⟨a1, a2, a3, a4, a5, a6⟩ := hT
  refine ⟨fun j hj => ?_, fun j hj => ?_, fun c hc => ?_, fun j hj => ?_, ?_, fun c hc => ?_⟩
  · by_cases e : j = i
    · subst e; rw [put_s, putR_s]
    · rw [put_nk e, putR_n e]; exact a1 j hj
  · rw [put_na (by omega), putR_n (by omega)]; exact a2 j hj
  · rw [put_na (by omega), putR_n (by omega)]; exact a3 c hc
  · rw [put_na (by omega), putR_n (by omega)]; exact a4 j hj
  · rw [put_na (by omega), putR_n (by omega)]; exact a5
  · rw [put_na (by omega), putR_n (by omega)]; exact a6 c hc
theorem TR_colour {h : AH} {t i : Nat} {v : Int} {f : TF} (hT : TR h t f) (hi : i < 14) : TR (put h (t + 2) i v) t (putR f (14 + i) v) := by
  obtain ⟨a1, a2, a3, a4, a5, a6⟩ := hT
  refine ⟨fun j hj => ?_, fun j hj => ?_, fun c hc => ?_, fun j hj => ?_, ?_, fun c hc => ?_⟩
  · rw [put_na (by omega), putR_n (by omega)]; exact a1 j hj
  · by_cases e : j = i
    · subst e; rw [put_s, putR_s]
    · rw [put_nk e, putR_n (by omega)]; exact a2 j hj
  · rw [put_na (by omega), putR_n (by omega)]; exact a3 c hc
  · rw [put_na (by omega), putR_n (by omega)]; exact a4 j hj
  · rw [put_na (by omega), putR_n (by omega)]; exact a5
  · rw [put_na (by omega), putR_n (by omega)]; exact a6 c hc
