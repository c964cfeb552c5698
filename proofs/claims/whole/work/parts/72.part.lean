/-! 72: the greatest part -/
abbrev bt (S : Int) (k : Nat) : Prop := bAnd (bShr S (k : Int)) 1 = 1
def cnt (S : Int) (tl : TF) (v : Int) : Nat → Int
  | 0 => 0
  | n + 1 => cnt S tl v n + if bt S n ∧ tl n = v then 1 else 0
def gpC (S : Int) (tl : TF) : Nat → Int
  | 0 => 0
  | n + 1 => if bt S n then (if gpC S tl n < cnt S tl (tl n) (n + 1) then cnt S tl (tl n) (n + 1) else gpC S tl n) else gpC S tl n
def gpT (S : Int) (tl : TF) : Nat → Int
  | 0 => 0
  | n + 1 => if bt S n then (if gpT S tl n < cnt S tl (tl n) 6 then cnt S tl (tl n) 6 else gpT S tl n) else gpT S tl n
theorem cnt_b {S : Int} {tl : TF} {v : Int} : ∀ {n : Nat}, 0 ≤ cnt S tl v n ∧ cnt S tl v n ≤ (n : Int)
  | 0 => by unfold cnt; omega
  | n + 1 => by
    have q := cnt_b (S := S) (tl := tl) (v := v) (n := n)
    unfold cnt
    split <;> omega
theorem cnt_le {S : Int} {tl : TF} {v : Int} {m : Nat} : ∀ {n : Nat}, cnt S tl v m ≤ cnt S tl v (m + n)
  | 0 => Int.le_refl _
  | n + 1 => by
    have q := cnt_le (S := S) (tl := tl) (v := v) (m := m) (n := n)
    rw [show m + (n + 1) = (m + n) + 1 by omega]
    conv => rhs; unfold cnt
    split <;> omega
theorem gpC_b {S : Int} {tl : TF} : ∀ {n : Nat}, 0 ≤ gpC S tl n ∧ gpC S tl n ≤ (n : Int)
  | 0 => by unfold gpC; omega
  | n + 1 => by
    have q := gpC_b (S := S) (tl := tl) (n := n)
    have q2 := cnt_b (S := S) (tl := tl) (v := tl n) (n := n + 1)
    unfold gpC
    split
    · split <;> omega
    · omega
theorem gpT_b {S : Int} {tl : TF} : ∀ {n : Nat}, 0 ≤ gpT S tl n ∧ gpT S tl n ≤ 6
  | 0 => by unfold gpT; omega
  | n + 1 => by
    have q := gpT_b (S := S) (tl := tl) (n := n)
    have q2 := cnt_b (S := S) (tl := tl) (v := tl n) (n := 6)
    unfold gpT
    split
    · split <;> omega
    · omega
theorem gpC_s {S : Int} {tl : TF} {n : Nat} : gpC S tl n ≤ gpC S tl (n + 1) := by
  conv => rhs; unfold gpC
  split
  · split <;> omega
  · omega
theorem cnt_gpC {S : Int} {tl : TF} {v : Int} : ∀ {n : Nat}, cnt S tl v n ≤ gpC S tl n
  | 0 => by unfold cnt gpC; omega
  | n + 1 => by
    have q := cnt_gpC (S := S) (tl := tl) (v := v) (n := n)
    have q2 := gpC_s (S := S) (tl := tl) (n := n)
    by_cases e : bt S n ∧ tl n = v
    · obtain ⟨e1, e2⟩ := e
      subst e2
      unfold gpC
      rw [if_pos e1]
      split <;> omega
    · have e3 : cnt S tl v (n + 1) = cnt S tl v n := by
        conv => lhs; unfold cnt
        rw [if_neg e]
        omega
      omega
theorem gpC_le {S : Int} {tl : TF} : ∀ {n : Nat}, n ≤ 6 → gpC S tl n ≤ gpT S tl n
  | 0, _ => by unfold gpC gpT; omega
  | n + 1, h => by
    have q := gpC_le (S := S) (tl := tl) (n := n) (by omega)
    have q2 := cnt_le (S := S) (tl := tl) (v := tl n) (m := n + 1) (n := 6 - (n + 1))
    rw [show n + 1 + (6 - (n + 1)) = 6 by omega] at q2
    unfold gpC gpT
    by_cases e : bt S n
    · rw [if_pos e, if_pos e]
      split <;> split <;> omega
    · rw [if_neg e, if_neg e]
      exact q
theorem gpT_le {S : Int} {tl : TF} : ∀ {n : Nat}, gpT S tl n ≤ gpC S tl 6
  | 0 => by
    have q := gpC_b (S := S) (tl := tl) (n := 6)
    unfold gpT
    omega
  | n + 1 => by
    have q := gpT_le (S := S) (tl := tl) (n := n)
    have q2 := cnt_gpC (S := S) (tl := tl) (v := tl n) (n := 6)
    unfold gpT
    split
    · split <;> omega
    · exact q
theorem gp_eq {S : Int} {tl : TF} : gpC S tl 6 = gpT S tl 6 := Int.le_antisymm (gpC_le (by omega)) gpT_le
/-- what the bead would show if it were of a kind, behind a move; 10: barred -/
noncomputable def pkF (f : TF) (i : Nat) (m : Int) (k : Nat) : Int := if barM (putR f i (k : Int)) m then 10 else shF (mvF (putR f i (k : Int)) m) (clF (mvF (putR f i (k : Int)) m) i)
theorem pkF_b {f : TF} {i k : Nat} {m N : Int} (hi : i < 14) (hk : k < 6) (hm : 0 ≤ m ∧ m < 4) (hN : N + 1 ≤ 900000) (hf : tyOk f N) : 0 ≤ pkF f i m k ∧ pkF f i m k ≤ 10 := by
  have ty := kd_ty (kd := (k : Int)) hi (by omega) hf
  have ty1 := mvF_ty hm ty
  have ck := clF_ok ty1 hi
  have sr := shF_rng ty1 (by omega) ck.1
  unfold pkF
  split <;> omega
theorem S_pok {d i k : Nat} {m N : Int} {f : TF} {h : AH} (hd : 6 ≤ d) (hi : i < 14) (hk : k < 6) (hm : 0 ≤ m ∧ m < 4) (hN : N + 1 ≤ 900000) (hf : tyOk f N) (eR : h 1000 = rgT) (T3 : TR h 3 f) (e8 : h 3 8 = 1) : ∃ h', (∀ Q, call d 113 [.inr (.inr (some 0)), .inl (i : Int), .inl (k : Int), .inl m] G1 h Q = Q (some (.inl (pkF f i m k))) G1 h') ∧ (∀ a, (a < 10 ∨ 16 ≤ a) → h' a = h a) := by
  obtain ⟨d, rfl, hd2⟩ := pos_of hd
  have g0 := g1_0
  have t3 : isToy 3 := Or.inl rfl
  have t10 : isToy 10 := Or.inr (Or.inl rfl)
  have s10 := toy_s t10
  obtain ⟨ha, cA, TA, FA, A8, A9⟩ := S_takeBeads (d := d) (t := 10) (u := 3) (h := h) (f := f) (by omega) t10 t3 (by omega) T3 (Or.inr e8) hf.1
  have cK : ∀ Q, call d 14 [.inr (.inr (some 10)), .inl (i : Int), .inl (k : Int)] G1 ha Q = Q none G1 (put ha 11 i (k : Int)) := fun Q => S_setKind (by omega) t10 hi
  have TB : TR (put ha 11 i (k : Int)) 10 (putR f i (k : Int)) := TR_kind TA hi
  have fb : ∀ a, (a < 10 ∨ 16 ≤ a) → put ha 11 i (k : Int) a = h a := fun a z => by rw [put_row (by omega), FA a (by omega)]
  generalize put ha 11 i (k : Int) = hb at cK TB fb
  have ty := kd_ty (kd := (k : Int)) hi (by omega) hf
  have cb : ∀ Q, call d 24 [.inr (.inr (some 10)), .inl m] G1 hb Q = if barM (putR f i (k : Int)) m then Q (some (.inl 1)) G1 hb else Q (some (.inl 0)) G1 hb := fun Q => S_bars (by omega) t10 hm TB ty.1 ty.2.2.1
  by_cases hbar : barM (putR f i (k : Int)) m
  · refine ⟨hb, fun Q => ?_, fb⟩
    unfold pkF
    rw [if_pos hbar, C_113]
    simp (disch := omega) only [X_113_0, X_113_1, X_113_4, X_113_5, X_113_8, X_113_11, X_113_12, X_113_15, X_113_16, X_113_17, X_113_20, X_113_21, X_113_24, X_113_25, X_113_28_t, X_113_28_f, X_113_28, X_113_31, X_113_33, X_113_34, X_113_35, X_113_38, X_113_39, X_113_42, X_113_43, X_113_46, X_113_47, X_113_50, r1_0_3, r1_0_2, cA, cK, cb, if_pos hbar, pushR_some, pushR_none]
  · obtain ⟨h1, c1, T1, F1⟩ := S_makeMove (d := d) (t := 10) (m := m) (h := hb) (f := putR f i (k : Int)) (by omega) t10 (by rw [fb _ (by omega), eR]) hm TB ty.1
    have ty1 := mvF_ty hm ty
    have ck := clF_ok ty1 hi
    have cs : ∀ Q, call d 18 [.inr (.inr (some 10)), .inl (i : Int)] G1 h1 Q = Q (some (.inl (shF (mvF (putR f i (k : Int)) m) (clF (mvF (putR f i (k : Int)) m) i)))) G1 h1 := fun Q => by
      have q := S_showAt (d := d) (t := 10) (c := clF (mvF (putR f i (k : Int)) m) i) (N := N + 1) (h := h1) (Q := Q) (by omega) t10 ck.1 T1 ty1 (by omega)
      rw [T1.2.2.1 _ ck.1, ck.2] at q
      exact q
    refine ⟨h1, fun Q => ?_, fun a z => by rw [F1.1 a (by omega), fb a z]⟩
    unfold pkF
    rw [if_neg hbar, C_113]
    simp (disch := omega) only [X_113_0, X_113_1, X_113_4, X_113_5, X_113_8, X_113_11, X_113_12, X_113_15, X_113_16, X_113_17, X_113_20, X_113_21, X_113_24, X_113_25, X_113_28_t, X_113_28_f, X_113_28, X_113_31, X_113_33, X_113_34, X_113_35, X_113_38, X_113_39, X_113_42, X_113_43, X_113_46, X_113_47, X_113_50, r1_0_3, r1_0_2, cA, cK, cb, if_neg hbar, c1, cs, pushR_some, pushR_none]
theorem L_gp {d i : Nat} {S m N : Int} {f : TF} (hd : 6 ≤ d) (hi : i < 14) (hm : 0 ≤ m ∧ m < 4) (hN : N + 1 ≤ 900000) (hf : tyOk f N) : ∀ (n k : Nat) (h : AH) (l6 : Option AV), k + n = 6 → h 1000 = rgT → TR h 3 f → h 3 8 = 1 → (∀ v : Nat, v < 11 → h 21 v = cnt S (pkF f i m) (v : Int) k) → ∃ h', (∀ Q, wp d 112 14 [some (.inr (.inr (some 0))), some (.inl (i : Int)), some (.inl S), some (.inl m), some (.inl (gpC S (pkF f i m) k)), some (.inl (k : Int)), l6] [] G1 h Q = Q (some (.inl (gpC S (pkF f i m) 6))) G1 h') ∧ (∀ a, (a < 10 ∨ 16 ≤ a) → ¬ a = 21 → h' a = h a) := by
  have g0 := g1_0
  have g21 := g1_21
  intro n
  induction n with
  | zero =>
    intro k h l6 hk eR T3 e8 e21
    obtain rfl : k = 6 := by omega
    refine ⟨h, fun Q => ?_, fun _ _ _ => rfl⟩
    simp (disch := omega) only [X_112_14, X_112_0, X_112_1, X_112_4, X_112_5, X_112_8, X_112_9, X_112_11, X_112_12, X_112_16, X_112_18_t, X_112_18_f, X_112_18, X_112_21, X_112_22, X_112_24, X_112_25, X_112_26, X_112_27, X_112_28_t, X_112_28_f, X_112_28, X_112_31, X_112_32, X_112_33, X_112_35, X_112_36, X_112_39, X_112_41, X_112_43_t, X_112_43_f, X_112_43, X_112_46, X_112_48, X_112_49, X_112_52, X_112_53_t, X_112_53_f, X_112_53, X_112_56, X_112_57, X_112_60, X_112_62, X_112_63, X_112_64, X_112_65, X_112_66, X_112_67, X_112_69, X_112_70, X_112_73, X_112_75, X_112_76, X_112_79, X_112_81, X_112_84, X_112_87, X_112_89]
  | succ n ih =>
    intro k h l6 hk eR T3 e8 e21
    have b1 := bAnd_1 (x := bShr S (k : Int))
    have gb := gpC_b (S := S) (tl := pkF f i m) (n := k)
    by_cases hb : bt S k
    · obtain ⟨h1, c1, F1⟩ := S_pok (d := d) (i := i) (k := k) (m := m) (N := N) (f := f) (h := h) hd hi (by omega) hm hN hf eR T3 e8
      have pb := pkF_b (k := k) hi (by omega) hm hN hf
      obtain ⟨v, hv⟩ := nat_of pb.1
      have hv2 : v < 11 := by omega
      have cb := cnt_b (S := S) (tl := pkF f i m) (v := (v : Int)) (n := k)
      have ec : cnt S (pkF f i m) (v : Int) (k + 1) = cnt S (pkF f i m) (v : Int) k + 1 := by
        conv => lhs; unfold cnt
        rw [if_pos ⟨hb, hv⟩]
      have e1 : h1 21 v = cnt S (pkF f i m) (v : Int) k := by rw [F1 _ (by omega)]; exact e21 v hv2
      have eG : (if gpC S (pkF f i m) k < cnt S (pkF f i m) (v : Int) k + 1 then cnt S (pkF f i m) (v : Int) k + 1 else gpC S (pkF f i m) k) = gpC S (pkF f i m) (k + 1) := by
        conv => rhs; unfold gpC
        rw [if_pos hb, hv, ec]
      rw [hv] at c1
      generalize eP : put h1 21 v (cnt S (pkF f i m) (v : Int) k + 1) = h2
      have fo : ∀ a, (a < 10 ∨ 16 ≤ a) → ¬ a = 21 → h2 a = h a := fun a z1 z2 => by rw [← eP, put_row z2, F1 a z1]
      have e2 : h2 21 v = cnt S (pkF f i m) (v : Int) k + 1 := by rw [← eP, put_s]
      have T3b : TR h2 3 f := TR_keep T3 (fo _ (by omega) (by omega)) (fo _ (by omega) (by omega)) (fo _ (by omega) (by omega)) (fo _ (by omega) (by omega)) (fo _ (by omega) (by omega)) (by rw [fo _ (by omega) (by omega)])
      obtain ⟨h', c2, F2⟩ := ih (k + 1) h2 (some (.inl (v : Int))) (by omega) (by rw [fo _ (by omega) (by omega), eR]) T3b (by rw [fo _ (by omega) (by omega), e8]) (fun u hu => by
        by_cases e : u = v
        · subst e; rw [e2, ec]
        · have e3 : cnt S (pkF f i m) (u : Int) (k + 1) = cnt S (pkF f i m) (u : Int) k := by
            conv => lhs; unfold cnt
            rw [if_neg (fun z => e (by omega)), Int.add_zero]
          rw [← eP, put_nk e, F1 _ (by omega), e21 u hu, e3])
      refine ⟨h', fun Q => ?_, fun a z1 z2 => by rw [F2 a z1 z2, fo a z1 z2]⟩
      refine Eq.trans ?_ (c2 Q)
      conv => lhs; rw [X_112_14]
      conv => lhs; simp (disch := omega) only [X_112_0, X_112_1, X_112_4, X_112_5, X_112_8, X_112_9, X_112_11, X_112_12, X_112_16, X_112_18_t, X_112_18_f, X_112_18, X_112_21, X_112_22, X_112_24, X_112_25, X_112_26, X_112_27, X_112_28_t, X_112_28_f, X_112_28, X_112_31, X_112_32, X_112_33, X_112_35, X_112_36, X_112_39, X_112_41, X_112_43_t, X_112_43_f, X_112_43, X_112_46, X_112_48, X_112_49, X_112_52, X_112_53_t, X_112_53_f, X_112_53, X_112_56, X_112_57, X_112_60, X_112_62, X_112_63, X_112_64, X_112_65, X_112_66, X_112_67, X_112_69, X_112_70, X_112_73, X_112_75, X_112_76, X_112_79, X_112_81, X_112_84, X_112_87, X_112_89, r1_0_8, c1, e1, eP, e2, S_max, eG, Int.toNat_natCast, pushR_some, fixp_i, natS]
    · have eG : gpC S (pkF f i m) (k + 1) = gpC S (pkF f i m) k := by
        conv => lhs; unfold gpC
        rw [if_neg hb]
      obtain ⟨h', c2, F2⟩ := ih (k + 1) h l6 (by omega) eR T3 e8 (fun u hu => by
        rw [e21 u hu]
        conv => rhs; unfold cnt
        rw [if_neg (fun z => hb z.1), Int.add_zero])
      rw [eG] at c2
      refine ⟨h', fun Q => ?_, F2⟩
      refine Eq.trans ?_ (c2 Q)
      conv => lhs; rw [X_112_14]
      conv => lhs; simp (disch := omega) only [X_112_0, X_112_1, X_112_4, X_112_5, X_112_8, X_112_9, X_112_11, X_112_12, X_112_16, X_112_18_t, X_112_18_f, X_112_18, X_112_21, X_112_22, X_112_24, X_112_25, X_112_26, X_112_27, X_112_28_t, X_112_28_f, X_112_28, X_112_31, X_112_32, X_112_33, X_112_35, X_112_36, X_112_39, X_112_41, X_112_43_t, X_112_43_f, X_112_43, X_112_46, X_112_48, X_112_49, X_112_52, X_112_53_t, X_112_53_f, X_112_53, X_112_56, X_112_57, X_112_60, X_112_62, X_112_63, X_112_64, X_112_65, X_112_66, X_112_67, X_112_69, X_112_70, X_112_73, X_112_75, X_112_76, X_112_79, X_112_81, X_112_84, X_112_87, X_112_89, fixp_i, natS]
theorem S_gp {d i : Nat} {S m N : Int} {f : TF} {h : AH} (hd : 7 ≤ d) (hi : i < 14) (hm : 0 ≤ m ∧ m < 4) (hN : N + 1 ≤ 900000) (hf : tyOk f N) (eR : h 1000 = rgT) (T3 : TR h 3 f) (e8 : h 3 8 = 1) : ∃ h', (∀ Q, call d 112 [.inr (.inr (some 0)), .inl (i : Int), .inl S, .inl m] G1 h Q = Q (some (.inl (gpC S (pkF f i m) 6))) G1 h') ∧ (∀ a, (a < 10 ∨ 16 ≤ a) → ¬ a = 21 → h' a = h a) := by
  obtain ⟨d, rfl, hd2⟩ := pos_of hd
  have g0 := g1_0
  have g21 := g1_21
  have cF : ∀ Q, call d 210 [.inr (.inr (some 21)), .inl 0] G1 h Q = Q none G1 (setR h 21 (mixR 11 (fun _ => 0) (h 21))) := fun Q => S_fill (n := 11) (by omega) (by omega)
  generalize eV : setR h 21 (mixR 11 (fun _ => 0) (h 21)) = hv at cF
  have vo : ∀ a, ¬ a = 21 → hv a = h a := fun a z => by rw [← eV, setR_n z]
  have T3v : TR hv 3 f := TR_keep T3 (vo _ (by omega)) (vo _ (by omega)) (vo _ (by omega)) (vo _ (by omega)) (vo _ (by omega)) (by rw [vo _ (by omega)])
  obtain ⟨h', c1, F1⟩ := L_gp (d := d) (i := i) (S := S) (m := m) (N := N) (f := f) hd2 hi hm hN hf 6 0 hv none (by omega) (by rw [vo _ (by omega), eR]) T3v (by rw [vo _ (by omega), e8]) (fun v hv2 => by rw [← eV, setR_s, mix_lt hv2]; rfl)
  refine ⟨h', fun Q => ?_, fun a z1 z2 => by rw [F1 a z1 z2, vo a z2]⟩
  rw [C_112]
  simp (disch := omega) only [X_112_0, X_112_1, X_112_4, X_112_5, X_112_8, X_112_9, X_112_11, X_112_12, X_112_16, X_112_18_t, X_112_18_f, X_112_18, X_112_21, X_112_22, X_112_24, X_112_25, X_112_26, X_112_27, X_112_28_t, X_112_28_f, X_112_28, X_112_31, X_112_32, X_112_33, X_112_35, X_112_36, X_112_39, X_112_41, X_112_43_t, X_112_43_f, X_112_43, X_112_46, X_112_48, X_112_49, X_112_52, X_112_53_t, X_112_53_f, X_112_53, X_112_56, X_112_57, X_112_60, X_112_62, X_112_63, X_112_64, X_112_65, X_112_66, X_112_67, X_112_69, X_112_70, X_112_73, X_112_75, X_112_76, X_112_79, X_112_81, X_112_84, X_112_87, X_112_89, r1_0_8, cF, pushR_none, fixp_i, fixp_n]
  exact c1 Q
theorem L3_gp1 {d a : Nat} {S top : Int} {h : AH} {Q : Option AV → AG → AH → Prop} (ha : a < 6) (hb : bt S a) (ht : ∀ k, k < 6 → 0 ≤ h 75 k ∧ h 75 k ≤ 10) : ∀ (n b : Nat), b + n = 6 → wp d 182 16 [some (.inr (.inr (some 63))), some (.inl S), some (.inl top), some (.inl (a : Int)), some (.inl (cnt S (h 75) (h 75 a) b)), some (.inl (b : Int))] [] G1 h Q = wp d 182 74 [some (.inr (.inr (some 63))), some (.inl S), some (.inl top), some (.inl (a : Int)), some (.inl (cnt S (h 75) (h 75 a) 6)), some (.inl 6)] [] G1 h Q := by
  have g0 := g1_63
  have g75 := g1_75
  have ta := ht a ha
  have hb' : bAnd (bShr S (a : Int)) 1 = 1 := hb
  intro n
  induction n with
  | zero =>
    intro b hk
    obtain rfl : b = 6 := by omega
    conv => lhs; rw [X_182_16]
    have e6 : ((6 : Nat) : Int) = 6 := rfl
    simp (disch := omega) only [X_182_0, X_182_1, X_182_2, X_182_3, X_182_5, X_182_7_t, X_182_7_f, X_182_7, X_182_10, X_182_11, X_182_13, X_182_14, X_182_18, X_182_20_t, X_182_20_f, X_182_20, X_182_23, X_182_24, X_182_25, X_182_26, X_182_27, X_182_28, X_182_29_t, X_182_29_f, X_182_29, X_182_32, X_182_34, X_182_35, X_182_37, X_182_38, X_182_39, X_182_40, X_182_41_t, X_182_41_f, X_182_41, X_182_44, X_182_45, X_182_48, X_182_49, X_182_50, X_182_51, X_182_54, X_182_56, X_182_57_t, X_182_57_f, X_182_57, X_182_60, X_182_61, X_182_64, X_182_65, X_182_66, X_182_68, X_182_71, X_182_74, X_182_76, X_182_77_t, X_182_77_f, X_182_77, X_182_80, X_182_82, X_182_85, X_182_86, X_182_87, X_182_90, X_182_93, X_182_94, e6]
  | succ n ih =>
    intro b hk
    have tb := ht b (by omega)
    have b1 := bAnd_1 (x := bShr S (b : Int))
    refine Eq.trans ?_ (ih (b + 1) (by omega))
    conv => lhs; rw [X_182_16]
    by_cases h1 : bt S b
    · by_cases h2 : h 75 b = h 75 a
      · have e : cnt S (h 75) (h 75 a) (b + 1) = cnt S (h 75) (h 75 a) b + 1 := by
          conv => lhs; unfold cnt
          rw [if_pos ⟨h1, h2⟩]
        rw [e]
        conv => lhs; simp (disch := omega) only [X_182_0, X_182_1, X_182_2, X_182_3, X_182_5, X_182_7_t, X_182_7_f, X_182_7, X_182_10, X_182_11, X_182_13, X_182_14, X_182_18, X_182_20_t, X_182_20_f, X_182_20, X_182_23, X_182_24, X_182_25, X_182_26, X_182_27, X_182_28, X_182_29_t, X_182_29_f, X_182_29, X_182_32, X_182_34, X_182_35, X_182_37, X_182_38, X_182_39, X_182_40, X_182_41_t, X_182_41_f, X_182_41, X_182_44, X_182_45, X_182_48, X_182_49, X_182_50, X_182_51, X_182_54, X_182_56, X_182_57_t, X_182_57_f, X_182_57, X_182_60, X_182_61, X_182_64, X_182_65, X_182_66, X_182_68, X_182_71, X_182_74, X_182_76, X_182_77_t, X_182_77_f, X_182_77, X_182_80, X_182_82, X_182_85, X_182_86, X_182_87, X_182_90, X_182_93, X_182_94, r1_63_16, Int.toNat_natCast, fixp_i, natS]
      · have e : cnt S (h 75) (h 75 a) (b + 1) = cnt S (h 75) (h 75 a) b + 0 := by
          conv => lhs; unfold cnt
          rw [if_neg (fun z => h2 z.2)]
        rw [e]
        conv => lhs; simp (disch := omega) only [X_182_0, X_182_1, X_182_2, X_182_3, X_182_5, X_182_7_t, X_182_7_f, X_182_7, X_182_10, X_182_11, X_182_13, X_182_14, X_182_18, X_182_20_t, X_182_20_f, X_182_20, X_182_23, X_182_24, X_182_25, X_182_26, X_182_27, X_182_28, X_182_29_t, X_182_29_f, X_182_29, X_182_32, X_182_34, X_182_35, X_182_37, X_182_38, X_182_39, X_182_40, X_182_41_t, X_182_41_f, X_182_41, X_182_44, X_182_45, X_182_48, X_182_49, X_182_50, X_182_51, X_182_54, X_182_56, X_182_57_t, X_182_57_f, X_182_57, X_182_60, X_182_61, X_182_64, X_182_65, X_182_66, X_182_68, X_182_71, X_182_74, X_182_76, X_182_77_t, X_182_77_f, X_182_77, X_182_80, X_182_82, X_182_85, X_182_86, X_182_87, X_182_90, X_182_93, X_182_94, r1_63_16, Int.toNat_natCast, fixp_i, natS]
    · have e : cnt S (h 75) (h 75 a) (b + 1) = cnt S (h 75) (h 75 a) b + 0 := by
        conv => lhs; unfold cnt
        rw [if_neg (fun z => h1 z.1)]
      rw [e]
      conv => lhs; simp (disch := omega) only [X_182_0, X_182_1, X_182_2, X_182_3, X_182_5, X_182_7_t, X_182_7_f, X_182_7, X_182_10, X_182_11, X_182_13, X_182_14, X_182_18, X_182_20_t, X_182_20_f, X_182_20, X_182_23, X_182_24, X_182_25, X_182_26, X_182_27, X_182_28, X_182_29_t, X_182_29_f, X_182_29, X_182_32, X_182_34, X_182_35, X_182_37, X_182_38, X_182_39, X_182_40, X_182_41_t, X_182_41_f, X_182_41, X_182_44, X_182_45, X_182_48, X_182_49, X_182_50, X_182_51, X_182_54, X_182_56, X_182_57_t, X_182_57_f, X_182_57, X_182_60, X_182_61, X_182_64, X_182_65, X_182_66, X_182_68, X_182_71, X_182_74, X_182_76, X_182_77_t, X_182_77_f, X_182_77, X_182_80, X_182_82, X_182_85, X_182_86, X_182_87, X_182_90, X_182_93, X_182_94, r1_63_16, Int.toNat_natCast, fixp_i, natS]
theorem L3_gp {d : Nat} {S : Int} {h : AH} {Q : Option AV → AG → AH → Prop} (ht : ∀ k, k < 6 → 0 ≤ h 75 k ∧ h 75 k ≤ 10) : ∀ (n a : Nat) (l4 l5 : Option AV), a + n = 6 → wp d 182 4 [some (.inr (.inr (some 63))), some (.inl S), some (.inl (gpT S (h 75) a)), some (.inl (a : Int)), l4, l5] [] G1 h Q = Q (some (.inl (gpT S (h 75) 6))) G1 h := by
  have g0 := g1_63
  have g75 := g1_75
  intro n
  induction n with
  | zero =>
    intro a l4 l5 hk
    obtain rfl : a = 6 := by omega
    conv => lhs; rw [X_182_4]
    simp (disch := omega) only [X_182_0, X_182_1, X_182_2, X_182_3, X_182_5, X_182_7_t, X_182_7_f, X_182_7, X_182_10, X_182_11, X_182_13, X_182_14, X_182_18, X_182_20_t, X_182_20_f, X_182_20, X_182_23, X_182_24, X_182_25, X_182_26, X_182_27, X_182_28, X_182_29_t, X_182_29_f, X_182_29, X_182_32, X_182_34, X_182_35, X_182_37, X_182_38, X_182_39, X_182_40, X_182_41_t, X_182_41_f, X_182_41, X_182_44, X_182_45, X_182_48, X_182_49, X_182_50, X_182_51, X_182_54, X_182_56, X_182_57_t, X_182_57_f, X_182_57, X_182_60, X_182_61, X_182_64, X_182_65, X_182_66, X_182_68, X_182_71, X_182_74, X_182_76, X_182_77_t, X_182_77_f, X_182_77, X_182_80, X_182_82, X_182_85, X_182_86, X_182_87, X_182_90, X_182_93, X_182_94]
  | succ n ih =>
    intro a l4 l5 hk
    have b1 := bAnd_1 (x := bShr S (a : Int))
    have gb := gpT_b (S := S) (tl := h 75) (n := a)
    have cb := cnt_b (S := S) (tl := h 75) (v := h 75 a) (n := 6)
    by_cases hb : bt S a
    · have q := L3_gp1 (d := d) (a := a) (S := S) (top := gpT S (h 75) a) (h := h) (Q := Q) (by omega) hb ht 6 0 (by omega)
      refine Eq.trans ?_ (ih (a + 1) (some (.inl (cnt S (h 75) (h 75 a) 6))) (some (.inl 6)) (by omega))
      refine Eq.trans (b := wp d 182 16 [some (.inr (.inr (some 63))), some (.inl S), some (.inl (gpT S (h 75) a)), some (.inl (a : Int)), some (.inl (cnt S (h 75) (h 75 a) 0)), some (.inl ((0 : Nat) : Int))] [] G1 h Q) ?_ ?_
      · conv => lhs; rw [X_182_4]
        conv => lhs; simp (disch := omega) only [X_182_0, X_182_1, X_182_2, X_182_3, X_182_5, X_182_7_t, X_182_7_f, X_182_7, X_182_10, X_182_11, X_182_13, X_182_14, X_182_18, X_182_20_t, X_182_20_f, X_182_20, X_182_23, X_182_24, X_182_25, X_182_26, X_182_27, X_182_28, X_182_29_t, X_182_29_f, X_182_29, X_182_32, X_182_34, X_182_35, X_182_37, X_182_38, X_182_39, X_182_40, X_182_41_t, X_182_41_f, X_182_41, X_182_44, X_182_45, X_182_48, X_182_49, X_182_50, X_182_51, X_182_54, X_182_56, X_182_57_t, X_182_57_f, X_182_57, X_182_60, X_182_61, X_182_64, X_182_65, X_182_66, X_182_68, X_182_71, X_182_74, X_182_76, X_182_77_t, X_182_77_f, X_182_77, X_182_80, X_182_82, X_182_85, X_182_86, X_182_87, X_182_90, X_182_93, X_182_94, fixp_i]
        rfl
      · rw [q]
        by_cases z : gpT S (h 75) a < cnt S (h 75) (h 75 a) 6
        · have e : gpT S (h 75) (a + 1) = cnt S (h 75) (h 75 a) 6 := by
            conv => lhs; unfold gpT
            rw [if_pos hb, if_pos z]
          rw [e]
          conv => lhs; simp (disch := omega) only [X_182_0, X_182_1, X_182_2, X_182_3, X_182_5, X_182_7_t, X_182_7_f, X_182_7, X_182_10, X_182_11, X_182_13, X_182_14, X_182_18, X_182_20_t, X_182_20_f, X_182_20, X_182_23, X_182_24, X_182_25, X_182_26, X_182_27, X_182_28, X_182_29_t, X_182_29_f, X_182_29, X_182_32, X_182_34, X_182_35, X_182_37, X_182_38, X_182_39, X_182_40, X_182_41_t, X_182_41_f, X_182_41, X_182_44, X_182_45, X_182_48, X_182_49, X_182_50, X_182_51, X_182_54, X_182_56, X_182_57_t, X_182_57_f, X_182_57, X_182_60, X_182_61, X_182_64, X_182_65, X_182_66, X_182_68, X_182_71, X_182_74, X_182_76, X_182_77_t, X_182_77_f, X_182_77, X_182_80, X_182_82, X_182_85, X_182_86, X_182_87, X_182_90, X_182_93, X_182_94, fixp_i, natS]
        · have e : gpT S (h 75) (a + 1) = gpT S (h 75) a := by
            conv => lhs; unfold gpT
            rw [if_pos hb, if_neg z]
          rw [e]
          conv => lhs; simp (disch := omega) only [X_182_0, X_182_1, X_182_2, X_182_3, X_182_5, X_182_7_t, X_182_7_f, X_182_7, X_182_10, X_182_11, X_182_13, X_182_14, X_182_18, X_182_20_t, X_182_20_f, X_182_20, X_182_23, X_182_24, X_182_25, X_182_26, X_182_27, X_182_28, X_182_29_t, X_182_29_f, X_182_29, X_182_32, X_182_34, X_182_35, X_182_37, X_182_38, X_182_39, X_182_40, X_182_41_t, X_182_41_f, X_182_41, X_182_44, X_182_45, X_182_48, X_182_49, X_182_50, X_182_51, X_182_54, X_182_56, X_182_57_t, X_182_57_f, X_182_57, X_182_60, X_182_61, X_182_64, X_182_65, X_182_66, X_182_68, X_182_71, X_182_74, X_182_76, X_182_77_t, X_182_77_f, X_182_77, X_182_80, X_182_82, X_182_85, X_182_86, X_182_87, X_182_90, X_182_93, X_182_94, fixp_i, natS]
    · have e : gpT S (h 75) (a + 1) = gpT S (h 75) a := by
        conv => lhs; unfold gpT
        rw [if_neg hb]
      have q := ih (a + 1) (some (.inl 0)) (some (.inl 0)) (by omega)
      rw [e] at q
      refine Eq.trans ?_ q
      conv => lhs; rw [X_182_4]
      conv => lhs; simp (disch := omega) only [X_182_16, X_182_0, X_182_1, X_182_2, X_182_3, X_182_5, X_182_7_t, X_182_7_f, X_182_7, X_182_10, X_182_11, X_182_13, X_182_14, X_182_18, X_182_20_t, X_182_20_f, X_182_20, X_182_23, X_182_24, X_182_25, X_182_26, X_182_27, X_182_28, X_182_29_t, X_182_29_f, X_182_29, X_182_32, X_182_34, X_182_35, X_182_37, X_182_38, X_182_39, X_182_40, X_182_41_t, X_182_41_f, X_182_41, X_182_44, X_182_45, X_182_48, X_182_49, X_182_50, X_182_51, X_182_54, X_182_56, X_182_57_t, X_182_57_f, X_182_57, X_182_60, X_182_61, X_182_64, X_182_65, X_182_66, X_182_68, X_182_71, X_182_74, X_182_76, X_182_77_t, X_182_77_f, X_182_77, X_182_80, X_182_82, X_182_85, X_182_86, X_182_87, X_182_90, X_182_93, X_182_94, fixp_i, natS]
theorem S3_gp {d : Nat} {S : Int} {h : AH} {Q : Option AV → AG → AH → Prop} (hd : 1 ≤ d) (ht : ∀ k, k < 6 → 0 ≤ h 75 k ∧ h 75 k ≤ 10) : call d 182 [.inr (.inr (some 63)), .inl S] G1 h Q = Q (some (.inl (gpT S (h 75) 6))) G1 h := by
  obtain ⟨d, rfl, hd2⟩ := pos_of hd
  rw [C_182]
  simp (disch := omega) only [X_182_0, X_182_1, X_182_2, X_182_3, X_182_5, X_182_7_t, X_182_7_f, X_182_7, X_182_10, X_182_11, X_182_13, X_182_14, X_182_18, X_182_20_t, X_182_20_f, X_182_20, X_182_23, X_182_24, X_182_25, X_182_26, X_182_27, X_182_28, X_182_29_t, X_182_29_f, X_182_29, X_182_32, X_182_34, X_182_35, X_182_37, X_182_38, X_182_39, X_182_40, X_182_41_t, X_182_41_f, X_182_41, X_182_44, X_182_45, X_182_48, X_182_49, X_182_50, X_182_51, X_182_54, X_182_56, X_182_57_t, X_182_57_f, X_182_57, X_182_60, X_182_61, X_182_64, X_182_65, X_182_66, X_182_68, X_182_71, X_182_74, X_182_76, X_182_77_t, X_182_77_f, X_182_77, X_182_80, X_182_82, X_182_85, X_182_86, X_182_87, X_182_90, X_182_93, X_182_94, fixp_i, fixp_n]
  exact L3_gp ht 6 0 none none (by omega)
