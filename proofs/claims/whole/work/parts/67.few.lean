/-! 67: the fewest moves -/
def fwF (P : TF → Bool) (f : TF) : Nat → Nat → Option (Nat × Nat)
  | 0, _ => none
  | n + 1, i => match ds P i f with
    | some c => some (i, c)
    | none => fwF P f n (i + 1)
def fwV (o : Option (Nat × Nat)) : Int := match o with
  | some (m, _) => (m : Int)
  | none => -9
def fwR (o : Option (Nat × Nat)) (t : Nat) (h h' : AH) : Prop := match o with
  | some (m, c) => h' (22 + 2 * t) 2 = (m : Int) ∧ h' (22 + 2 * t) 1 = h (22 + 2 * t) 1 ∧ ∀ k, k < m → h' (23 + 2 * t) k = dg c (m - 1 - k)
  | none => h' (22 + 2 * t) = h (22 + 2 * t) ∧ h' (23 + 2 * t) = h (23 + 2 * t)
theorem fwF_b {P : TF → Bool} {f : TF} : ∀ {n i m c : Nat}, fwF P f n i = some (m, c) → m < i + n ∧ c < 4 ^ m
  | 0, _, _, _, h => absurd h (by simp [fwF])
  | n + 1, i, m, c, h => by
    cases hd : ds P i f with
    | some c0 =>
      have e : fwF P f (n + 1) i = some (i, c0) := by unfold fwF; rw [hd]
      rw [h] at e
      injection e with e
      injection e with e1 e2
      subst e1 e2
      exact ⟨by omega, ((ds_ok m f).1 c hd).1⟩
    | none =>
      have e : fwF P f (n + 1) i = fwF P f n (i + 1) := by conv => lhs; unfold fwF; rw [hd]
      rw [h] at e
      have q := fwF_b e.symm
      exact ⟨by omega, q.2⟩
theorem L_ftw2 {d t m : Nat} {h : AH} {Q : Option AV → AG → AH → Prop} (hd : 3 ≤ d) (ht : t < 6) (hm : m ≤ 5) (h2 : h (22 + 2 * t) 2 = (m : Int)) : ∀ (n i : Nat), i + n = m → wp d 108 34 [some (.inr (.inr (some 0))), some (.inr (.inr (some (22 + 2 * t)))), some (.inl (m : Int)), some (.inl (i : Int))] [] G1 (setR h (23 + 2 * t) (mixR i (h 20) (h (23 + 2 * t)))) Q = Q (some (.inl (m : Int))) G1 (setR h (23 + 2 * t) (mixR m (h 20) (h (23 + 2 * t)))) := by
  have g0 := g1_0
  have g20 := g1_20
  have hR := rows_r ht
  have hw := hR.2
  have hs := rw_s hw
  have hL := rwL_r ht
  intro n
  induction n with
  | zero =>
    intro i hi
    obtain rfl : i = m := by omega
    simp (disch := omega) only [X_108_34, X_108_0, X_108_1, X_108_4, X_108_5, X_108_8, X_108_11, X_108_12, X_108_14, X_108_15_t, X_108_15_f, X_108_15, X_108_18, X_108_19, X_108_20, X_108_21, X_108_24_t, X_108_24_f, X_108_24, X_108_27, X_108_28, X_108_29, X_108_32, X_108_33, X_108_35, X_108_36_t, X_108_36_f, X_108_36, X_108_39, X_108_40, X_108_41, X_108_42, X_108_45, X_108_46, X_108_47, X_108_50, X_108_53, X_108_56, X_108_57, X_108_58, X_108_61, X_108_64, X_108_66]
  | succ n ih =>
    intro i hi
    rw [← ih (i + 1) (by omega), ← mix_put (f := h 20)]
    have w2 : setR h (23 + 2 * t) (mixR i (h 20) (h (23 + 2 * t))) (22 + 2 * t) 2 = (m : Int) := by rw [setR_n (by omega), h2]
    have w3 : setR h (23 + 2 * t) (mixR i (h 20) (h (23 + 2 * t))) 20 i = h 20 i := by rw [setR_n (by omega)]
    have e3 : put (setR h (23 + 2 * t) (mixR i (h 20) (h (23 + 2 * t)))) (23 + 2 * t) i (h 20 i) = setR h (23 + 2 * t) (putR (mixR i (h 20) (h (23 + 2 * t))) i (h 20 i)) := by rw [put_set, setR_s, setR_2]
    rw [← e3]
    generalize setR h (23 + 2 * t) (mixR i (h 20) (h (23 + 2 * t))) = h1 at w2 w3 ⊢
    conv => lhs; rw [X_108_34]
    conv => lhs; simp (disch := omega) only [X_108_0, X_108_1, X_108_4, X_108_5, X_108_8, X_108_11, X_108_12, X_108_14, X_108_15_t, X_108_15_f, X_108_15, X_108_18, X_108_19, X_108_20, X_108_21, X_108_24_t, X_108_24_f, X_108_24, X_108_27, X_108_28, X_108_29, X_108_32, X_108_33, X_108_35, X_108_36_t, X_108_36_f, X_108_36, X_108_39, X_108_40, X_108_41, X_108_42, X_108_45, X_108_46, X_108_47, X_108_50, X_108_53, X_108_56, X_108_57, X_108_58, X_108_61, X_108_64, X_108_66, r1_0_7, Int.toNat_natCast, w3, S_set, q23, pushR_some, pushR_none, fixp_i, natS]
theorem L_ftw {d t : Nat} {w f : TF} {N : Int} (hd : 10 ≤ d) (ht : t < 6) (hN : N + 5 ≤ 900000) (hw : ∀ c, c < 14 → -1 ≤ w c ∧ w c ≤ 9) (hf : tyOk f N) : ∀ (n i : Nat) (h : AH) (l3 : Option AV), i + n = 6 → h 1000 = rgT → (∀ c, c < 14 → h 19 c = w c) → TR h 10 f → ∃ h', (∀ Q, wp d 108 13 [some (.inr (.inr (some 0))), some (.inr (.inr (some (22 + 2 * t)))), some (.inl (i : Int)), l3] [] G1 h Q = Q (some (.inl (fwV (fwF (fun g => picB g w) f n i)))) G1 h') ∧ (∀ a, (a < 10 ∨ 16 ≤ a) → ¬ a = 20 → ¬ a = 22 + 2 * t → ¬ a = 23 + 2 * t → h' a = h a) ∧ fwR (fwF (fun g => picB g w) f n i) t h h' := by
  have g0 := g1_0
  have g20 := g1_20
  have hR := rows_r ht
  have hwR := hR.2
  have hs := rw_s hwR
  have hL := rwL_r ht
  intro n
  induction n with
  | zero =>
    intro i h l3 hi eR e19 hT
    obtain rfl : i = 6 := by omega
    refine ⟨h, fun Q => ?_, fun _ _ _ _ _ => rfl, rfl, rfl⟩
    simp (disch := omega) only [X_108_13, X_108_0, X_108_1, X_108_4, X_108_5, X_108_8, X_108_11, X_108_12, X_108_14, X_108_15_t, X_108_15_f, X_108_15, X_108_18, X_108_19, X_108_20, X_108_21, X_108_24_t, X_108_24_f, X_108_24, X_108_27, X_108_28, X_108_29, X_108_32, X_108_33, X_108_35, X_108_36_t, X_108_36_f, X_108_36, X_108_39, X_108_40, X_108_41, X_108_42, X_108_45, X_108_46, X_108_47, X_108_50, X_108_53, X_108_56, X_108_57, X_108_58, X_108_61, X_108_64, X_108_66, fwF, fwV]
  | succ n ih =>
    intro i h l3 hi eR e19 hT
    obtain ⟨h1, c1, T1, F1, J1, P1⟩ := S_reach hN hw i d 0 i f h (by omega) (by omega) (by omega) eR e19 hT (by simpa using hf)
    have c1' : ∀ Q, call d 109 [.inr (.inr (some 0)), .inl 0, .inl (i : Int)] G1 h Q = _ := c1
    cases hD : ds (fun g => picB g w) i f with
    | some c =>
      have e : fwF (fun g => picB g w) f (n + 1) i = some (i, c) := by unfold fwF; rw [hD]
      rw [e]
      rw [hD] at c1'
      generalize eB : rbg h1 (22 + 2 * t) (i : Int) = h2
      have b2 : h2 (22 + 2 * t) 2 = (i : Int) := by rw [← eB, rbg_2]
      have b1 : h2 (22 + 2 * t) 1 = h1 (22 + 2 * t) 1 := by rw [← eB, rbg_k (by omega)]
      have bo : ∀ a, ¬ a = 22 + 2 * t → ¬ a = 23 + 2 * t → h2 a = h1 a := fun a z1 z2 => by rw [← eB, rbg_o z1 (by omega)]
      refine ⟨setR h2 (23 + 2 * t) (mixR i (h2 20) (h2 (23 + 2 * t))), fun Q => ?_, fun a a1 a2 a3 a4 => ?_, ?_, ?_, fun k hk => ?_⟩
      · have q := L_ftw2 (d := d) (t := t) (m := i) (h := h2) (Q := Q) (by omega) ht (by omega) b2 i 0 (by omega)
        rw [mix_0, setR_e] at q
        refine Eq.trans ?_ q
        conv => lhs; rw [X_108_13]
        conv => lhs; simp (disch := omega) only [X_108_0, X_108_1, X_108_4, X_108_5, X_108_8, X_108_11, X_108_12, X_108_14, X_108_15_t, X_108_15_f, X_108_15, X_108_18, X_108_19, X_108_20, X_108_21, X_108_24_t, X_108_24_f, X_108_24, X_108_27, X_108_28, X_108_29, X_108_32, X_108_33, X_108_35, X_108_36_t, X_108_36_f, X_108_36, X_108_39, X_108_40, X_108_41, X_108_42, X_108_45, X_108_46, X_108_47, X_108_50, X_108_53, X_108_56, X_108_57, X_108_58, X_108_61, X_108_64, X_108_66, c1', rdB, S_rbegin, eB, pushR_some, pushR_none, fixp_i]
        rfl
      · rw [setR_n a4, bo a a3 a4, F1 a a1 a2]
      · rw [setR_n (by omega), b2]
      · rw [setR_n (by omega), b1, F1 _ (by omega) (by omega)]
      · rw [setR_s, mix_lt hk, bo _ (by omega) (by omega)]
        have q := P1 c hD k hk
        rw [Nat.zero_add] at q
        exact q
    | none =>
      have e : fwF (fun g => picB g w) f (n + 1) i = fwF (fun g => picB g w) f n (i + 1) := by conv => lhs; unfold fwF; rw [hD]
      rw [e]
      rw [hD] at c1'
      obtain ⟨h', c2, F2, R2⟩ := ih (i + 1) h1 l3 (by omega) (by rw [F1 _ (by omega) (by omega), eR]) (fun c hc => by rw [F1 _ (by omega) (by omega), e19 c hc]) T1
      refine ⟨h', fun Q => ?_, fun a a1 a2 a3 a4 => by rw [F2 a a1 a2 a3 a4, F1 a a1 a2], ?_⟩
      · refine Eq.trans ?_ (c2 Q)
        conv => lhs; rw [X_108_13]
        conv => lhs; simp (disch := omega) only [X_108_0, X_108_1, X_108_4, X_108_5, X_108_8, X_108_11, X_108_12, X_108_14, X_108_15_t, X_108_15_f, X_108_15, X_108_18, X_108_19, X_108_20, X_108_21, X_108_24_t, X_108_24_f, X_108_24, X_108_27, X_108_28, X_108_29, X_108_32, X_108_33, X_108_35, X_108_36_t, X_108_36_f, X_108_36, X_108_39, X_108_40, X_108_41, X_108_42, X_108_45, X_108_46, X_108_47, X_108_50, X_108_53, X_108_56, X_108_57, X_108_58, X_108_61, X_108_64, X_108_66, c1', rdB, pushR_some, fixp_i, fixp_r, natS]
      · have e1 := F1 (22 + 2 * t) (by omega) (by omega)
        have e2 := F1 (23 + 2 * t) (by omega) (by omega)
        revert R2
        unfold fwR
        rw [e1, e2]
        exact fun z => z
def lmv (h : AH) (t n c : Nat) : AH := setR (put h 68 t (n : Int)) 67 (blk (h 67) (40 * t) n (fun k => dg c (n - 1 - k)))
def lmO (h : AH) (t : Nat) (o : Option (Nat × Nat)) : AH := match o with
  | some (n, c) => lmv h t n c
  | none => h
theorem S3_layMoves {d t n c : Nat} {h : AH} {Q : Option AV → AG → AH → Prop} (hd : 1 ≤ d) (ht : t < 6) (hn : n ≤ 5) (hc : c < 1024) : call d 171 [.inr (.inr (some 63)), .inl (t : Int), .inl (n : Int), .inl (c : Int)] G1 h Q = Q (some (.inl (n : Int))) G1 (lmv h t n c) := by
  obtain ⟨d, rfl, hd2⟩ := pos_of hd
  have g0 := g1_63
  have g67 := g1_67
  have g68 := g1_68
  generalize eP : put h 68 t (n : Int) = hp
  have p67 : hp 67 = h 67 := by rw [← eP, put_row (by omega)]
  have L : ∀ (m i : Nat), i + m = n → wp d 171 10 [some (.inr (.inr (some 63))), some (.inl (t : Int)), some (.inl (n : Int)), some (.inl (c : Int)), some (.inl (i : Int))] [] G1 (setR hp 67 (blk (h 67) (40 * t) i (fun k => dg c (n - 1 - k)))) Q = Q (some (.inl (n : Int))) G1 (setR hp 67 (blk (h 67) (40 * t) n (fun k => dg c (n - 1 - k)))) := by
    intro m
    induction m with
    | zero =>
      intro i hi
      obtain rfl : i = n := by omega
      simp (disch := omega) only [X_171_10, X_171_0, X_171_1, X_171_4, X_171_5, X_171_6, X_171_7, X_171_8, X_171_12, X_171_13_t, X_171_13_f, X_171_13, X_171_16, X_171_17, X_171_20, X_171_22, X_171_23, X_171_24, X_171_26, X_171_27, X_171_28, X_171_29, X_171_30, X_171_31, X_171_32, X_171_34, X_171_35, X_171_36, X_171_37, X_171_38, X_171_39, X_171_40, X_171_43, X_171_46, X_171_47]
    | succ m ih =>
      intro i hi
      have eb : bAnd (bShr (c : Int) (2 * ((n : Int) - 1 - (i : Int)))) 3 = dg c (n - 1 - i) := by
        rw [show (n : Int) - 1 - (i : Int) = ((n - 1 - i : Nat) : Int) by omega]
        exact dg_bits (by omega)
      rw [← ih (i + 1) (by omega), X_171_10]
      simp (disch := omega) only [X_171_0, X_171_1, X_171_4, X_171_5, X_171_6, X_171_7, X_171_8, X_171_12, X_171_13_t, X_171_13_f, X_171_13, X_171_16, X_171_17, X_171_20, X_171_22, X_171_23, X_171_24, X_171_26, X_171_27, X_171_28, X_171_29, X_171_30, X_171_31, X_171_32, X_171_34, X_171_35, X_171_36, X_171_37, X_171_38, X_171_39, X_171_40, X_171_43, X_171_46, X_171_47, r1_63_4, tn40, eb, put_set, setR_s, setR_2, fixp_i, natS]
      rw [← blk_put (f := fun k => dg c (n - 1 - k))]
  rw [C_171]
  simp (disch := omega) only [X_171_0, X_171_1, X_171_4, X_171_5, X_171_6, X_171_7, X_171_8, X_171_12, X_171_13_t, X_171_13_f, X_171_13, X_171_16, X_171_17, X_171_20, X_171_22, X_171_23, X_171_24, X_171_26, X_171_27, X_171_28, X_171_29, X_171_30, X_171_31, X_171_32, X_171_34, X_171_35, X_171_36, X_171_37, X_171_38, X_171_39, X_171_40, X_171_43, X_171_46, X_171_47, r1_63_5, Int.toNat_natCast, eP, fixp_i]
  have q := L n 0 (by omega)
  rw [blk_0, ← p67, setR_e] at q
  unfold lmv
  rw [eP, ← p67]
  exact q
theorem shl_4 : ∀ n : Nat, n < 6 → bShl 1 (2 * (n : Int)) = ((4 ^ n : Nat) : Int) := by decide
theorem pow_4 : ∀ n : Nat, n < 6 → 4 ^ n ≤ 1024 := by decide
theorem fw_inv {n t : Nat} {h h1 : AH} {F : TF} {o : Option (Nat × Nat)} (ht : t < 6) (H : INV n h) (e1 : ∀ a, (a < 10 ∨ 17 ≤ a) → ¬ a = 19 → ¬ a = 20 → ¬ a = 22 + 2 * t → ¬ a = 23 + 2 * t → h1 a = h a) (R : fwR o t h h1) (hF : ∀ s, 98 ≤ s → F s = 0) (ho : ∀ m c, o = some (m, c) → m ≤ 5) : INV n (lmO (setR h1 74 F) t o) := by
  cases o with
  | none =>
    obtain ⟨r1, r2⟩ := R
    refine INV_scr H (fun a a1 => ?_) (fun s hs => ?_)
    · have n74 : ¬ a = 74 := fun z => a1 (by unfold scr; omega)
      have n19 : ¬ a = 19 := fun z => a1 (by unfold scr; omega)
      have n20 : ¬ a = 20 := fun z => a1 (by unfold scr; omega)
      have n10 : a < 10 ∨ 17 ≤ a := by have : ¬ (10 ≤ a ∧ a < 17) := fun z => a1 (Or.inl z); omega
      show setR h1 74 F a = h a
      rw [setR_n n74]
      by_cases z1 : a = 22 + 2 * t
      · rw [z1, r1]
      by_cases z2 : a = 23 + 2 * t
      · rw [z2, r2]
      exact e1 a n10 n19 n20 z1 z2
    · show setR h1 74 F 74 s = 0
      rw [setR_s]; exact hF s hs
  | some mc =>
    obtain ⟨m, c⟩ := mc
    obtain ⟨r1, r2, r3⟩ := R
    have hm := ho m c rfl
    have R0 := H.2.2.1 t ht
    have w67 : setR h1 74 F 67 = h 67 := by rw [setR_n (by omega), e1 67 (by omega) (by omega) (by omega) (by omega) (by omega)]
    have y68 : lmv (setR h1 74 F) t m c 68 t = (m : Int) := by unfold lmv; rw [setR_n (by omega), put_s]
    have yo : ∀ a, ¬ a = 67 → ¬ a = 68 → ¬ a = 74 → lmv (setR h1 74 F) t m c a = h1 a := fun a z1 z2 z3 => by unfold lmv; rw [setR_n z1, put_row z2, setR_n z3]
    show INV n (lmv (setR h1 74 F) t m c)
    refine INV_row ht H (fun a a1 a2 a3 a4 a5 => ?_) (fun s hs => ?_) (fun s hs hz => ?_) (fun s hs => ?_) ?_
    · have n74 : ¬ a = 74 := fun z => a1 (by unfold scr; omega)
      have n19 : ¬ a = 19 := fun z => a1 (by unfold scr; omega)
      have n20 : ¬ a = 20 := fun z => a1 (by unfold scr; omega)
      have n10 : a < 10 ∨ 17 ≤ a := by have : ¬ (10 ≤ a ∧ a < 17) := fun z => a1 (Or.inl z); omega
      rw [yo a a4 a5 n74]
      exact e1 a n10 n19 n20 a2 a3
    · unfold lmv
      rw [setR_n (by omega), put_row (by omega), setR_s]; exact hF s hs
    · unfold lmv
      rw [setR_n (by omega), put_nk hz, setR_n (by omega), e1 68 (by omega) (by omega) (by omega) (by omega) (by omega)]
    · unfold lmv
      rw [setR_s, blk_out (by omega), w67]
    · unfold RowR
      rw [y68]
      refine ⟨?_, ?_, by omega, by omega, fun k hk => ?_⟩
      · rw [yo _ (by omega) (by omega) (by omega), r1]
      · rw [yo _ (by omega) (by omega) (by omega), r2]; exact R0.2.1
      · have b := dg_b (code := c) (k := m - 1 - k)
        have e67 : lmv (setR h1 74 F) t m c 67 (40 * t + k) = dg c (m - 1 - k) := by unfold lmv; rw [setR_s, blk_in (by omega)]
        rw [yo _ (by omega) (by omega) (by omega), r3 k (by omega), e67]
        omega
