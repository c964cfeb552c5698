/-! 28: toys: moves, bars, what shows -/
/-- a toy of the class has the row f; the cells of its beads are noted -/
def TR (h : AH) (t : Nat) (f : TF) : Prop := (∀ i, i < 14 → h (t + 1) i = f i) ∧ (∀ i, i < 14 → h (t + 2) i = f (14 + i)) ∧ (∀ c, c < 14 → h (t + 5) c = f (69 + c)) ∧ (∀ i, i < 14 → h (t + 4) i = f (83 + i)) ∧ h t 6 = f 97 ∧ ∀ c, c < 14 → h (t + 3) (f (69 + c)).toNat = c
/-- what a move leaves as it was -/
def FT (t : Nat) (h h' : AH) : Prop := (∀ a, (a < t ∨ t + 6 ≤ a ∨ a = t + 1 ∨ a = t + 2) → h' a = h a) ∧ ∀ k, ¬ k = 6 → h' t k = h t k
theorem FT_r {t : Nat} {h : AH} : FT t h h := ⟨fun _ _ => rfl, fun _ _ => rfl⟩
theorem FT_t {t : Nat} {h1 h2 h3 : AH} (a : FT t h1 h2) (b : FT t h2 h3) : FT t h1 h3 := ⟨fun x hx => (b.1 x hx).trans (a.1 x hx), fun k hk => (b.2 k hk).trans (a.2 k hk)⟩
theorem TR_perm {h : AH} {t : Nat} {f : TF} (hT : TR h t f) (hf : lieOk f) : permR (h (t + 5)) := by
  refine ⟨fun c hc => ?_, fun c hc e he q => ?_⟩
  · rw [hT.2.2.1 c hc]
    exact hf.1 c hc
  · rw [hT.2.2.1 c hc, hT.2.2.1 e he] at q
    exact hf.2 c hc e he q
theorem TR_cong {h : AH} {t : Nat} {f g : TF} (hT : TR h t f) (h1 : ∀ s, s < 28 → g s = f s) (h2 : ∀ c, c < 14 → g (69 + c) = f (69 + c)) (h3 : ∀ i, i < 14 → g (83 + i) = f (83 + i)) (h4 : g 97 = f 97) : TR h t g := by
  obtain ⟨a1, a2, a3, a4, a5, a6⟩ := hT
  refine ⟨fun i hi => ?_, fun i hi => ?_, fun i hi => ?_, fun i hi => ?_, ?_, fun c hc => ?_⟩
  · rw [h1 i (by omega)]; exact a1 i hi
  · rw [h1 (14 + i) (by omega)]; exact a2 i hi
  · rw [h2 i hi]; exact a3 i hi
  · rw [h3 i hi]; exact a4 i hi
  · rw [h4]; exact a5
  · rw [h2 c hc]; exact a6 c hc
theorem incQ_sh {q : TF} {m i v : Int} (hm : 2 ≤ m ∧ m < 4) : incQ (shH q m) i v = incQ q i v := by
  have hm2 : m = 2 ∨ m = 3 := by omega
  unfold incQ
  rcases hm2 with rfl | rfl
  · rw [shH_at (m := 2) (c := 0) (by omega) (by omega), shH_at (m := 2) (c := 8) (by omega) (by omega), shH_at (m := 2) (c := 9) (by omega) (by omega), shH_at (m := 2) (c := 10) (by omega) (by omega), shH_at (m := 2) (c := 4) (by omega) (by omega), shH_at (m := 2) (c := 11) (by omega) (by omega), shH_at (m := 2) (c := 12) (by omega) (by omega), shH_at (m := 2) (c := 13) (by omega) (by omega)]
    simp only [srcF, List.getD_cons_zero, List.getD_cons_succ, Int.reduceAdd, Int.reduceSub, Int.reduceMul, Int.reduceDiv, Int.reduceMod, Int.reduceNeg, Int.reduceToNat, Int.reduceLT, Int.reduceLE, Int.reduceEq, Nat.reduceAdd, Nat.reduceMul, Nat.reduceEqDiff, reduceIte, or_true, true_or, or_false, false_or, or_self, and_true, true_and, and_false, false_and, not_true_eq_false, not_false_eq_true, ne_eq]
    omega
  · rw [shH_at (m := 3) (c := 0) (by omega) (by omega), shH_at (m := 3) (c := 8) (by omega) (by omega), shH_at (m := 3) (c := 9) (by omega) (by omega), shH_at (m := 3) (c := 10) (by omega) (by omega), shH_at (m := 3) (c := 4) (by omega) (by omega), shH_at (m := 3) (c := 11) (by omega) (by omega), shH_at (m := 3) (c := 12) (by omega) (by omega), shH_at (m := 3) (c := 13) (by omega) (by omega)]
    simp only [srcF, List.getD_cons_zero, List.getD_cons_succ, Int.reduceAdd, Int.reduceSub, Int.reduceMul, Int.reduceDiv, Int.reduceMod, Int.reduceNeg, Int.reduceToNat, Int.reduceLT, Int.reduceLE, Int.reduceEq, Nat.reduceAdd, Nat.reduceMul, Nat.reduceEqDiff, reduceIte, or_true, true_or, or_false, false_or, or_self, and_true, true_and, and_false, false_and, not_true_eq_false, not_false_eq_true, ne_eq]
    omega
theorem incQ_inc {q f : TF} {i : Int} (hq : ∀ c, c < 14 → q c = f (69 + c)) : incQ q i 1 = inc f i ∧ incQ q i (-1) = - inc f i := by
  unfold incQ inc
  rw [hq 0 (by omega), hq 8 (by omega), hq 9 (by omega), hq 10 (by omega), hq 4 (by omega), hq 11 (by omega), hq 12 (by omega), hq 13 (by omega)]
  refine ⟨rfl, ?_⟩
  simp only [Nat.reduceAdd]
  (repeat' split) <;> omega
theorem S_makeMove {d t : Nat} {m : Int} {h : AH} {f : TF} (hd : 3 ≤ d) (ht : isToy t) (hg : h 1000 = rgT) (hm : 0 ≤ m ∧ m < 4) (hT : TR h t f) (hf : lieOk f) : ∃ h', (∀ Q, call d 25 [.inr (.inr (some t)), .inl m] G1 h Q = Q none G1 h') ∧ TR h' t (mvF f m) ∧ FT t h h' := by
  obtain ⟨d, rfl, hd2⟩ := pos_of hd
  have hs := toy_s ht
  have hp := TR_perm hT hf
  have hb0 : ∀ c, c < 14 → 0 ≤ h (t + 5) c ∧ h (t + 5) c < 14 := hp.1
  generalize e1 : setR (setR h (t + 5) (shH (h (t + 5)) m)) (t + 3) (shP (h (t + 3)) (h (t + 5)) m) = h1
  have g1 : h1 1000 = rgT := by rw [← e1, setR_n (by omega), setR_n (by omega), hg]
  have q5 : h1 (t + 5) = shH (h (t + 5)) m := by rw [← e1, setR_n (by omega), setR_s]
  have q3 : h1 (t + 3) = shP (h (t + 3)) (h (t + 5)) m := by rw [← e1, setR_s]
  have qo : ∀ a, ¬ a = t + 5 → ¬ a = t + 3 → h1 a = h a := fun a z1 z2 => by rw [← e1, setR_n z2, setR_n z1]
  have hb1 : ∀ c, c < 14 → 0 ≤ h1 (t + 5) c ∧ h1 (t + 5) c < 14 := fun c hc => by rw [q5, shH_at hm hc]; exact hb0 _ (srcF_lt hm hc)
  generalize e2 : (if m < 2 then h1 else setR h1 (t + 4) (brB (h1 (t + 4)) (h1 (t + 5)) 1)) = h2
  have r4 : ∀ i, i < 14 → h2 (t + 4) i = h (t + 4) i + if m < 2 then 0 else incQ (h (t + 5)) i 1 := by
    intro i hi
    rw [← e2]
    by_cases z : m < 2
    · rw [if_pos z, if_pos z, qo _ (by omega) (by omega), Int.add_zero]
    · rw [if_neg z, if_neg z, setR_s, brB_at, qo _ (by omega) (by omega), q5, incQ_sh (by omega)]
      rw [q5]
      refine ⟨fun c hc => by rw [shH_at hm hc]; exact hb0 _ (srcF_lt hm hc), fun c hc e he z2 => ?_⟩
      rw [shH_at hm hc, shH_at hm he] at z2
      exact srcF_inj hm c hc e he (hp.2 _ (srcF_lt hm hc) _ (srcF_lt hm he) z2)
  have ro : ∀ a, ¬ a = t + 4 → h2 a = h1 a := fun a z1 => by
    rw [← e2]
    by_cases z : m < 2
    · rw [if_pos z]
    · rw [if_neg z, setR_n z1]
  refine ⟨put h2 t 6 (h2 t 6 + 1), fun Q => ?_, ⟨fun i hi => ?_, fun i hi => ?_, fun c hc => ?_, fun i hi => ?_, ?_, fun c hc => ?_⟩, ⟨fun a ha => ?_, fun k hk => ?_⟩⟩
  · rw [C_25]
    simp (disch := first | omega | assumption) only [X_25_0, X_25_1, X_25_4_t, X_25_4_f, X_25_4, X_25_7, X_25_8, X_25_9, X_25_12, X_25_13, X_25_14, X_25_15, X_25_18, X_25_19, X_25_20, X_25_23, X_25_24, X_25_25, X_25_28, S_isMove_t, S_shift, S_bear, pushR_some, pushR_none, e1, e2]
  · rw [put_row (by omega), ro _ (by omega), qo _ (by omega) (by omega), hT.1 i hi, mvF_lo hm (by omega) hf]
  · rw [put_row (by omega), ro _ (by omega), qo _ (by omega) (by omega), hT.2.1 i hi, mvF_lo hm (by omega) hf]
  · rw [put_row (by omega), ro _ (by omega), q5, shH_at hm hc, hT.2.2.1 _ (srcF_lt hm hc), mvF_lie hm hc hf]
  · rw [put_row (by omega), r4 i hi, hT.2.2.2.1 i hi, mvF_brn hm hi hf, (incQ_inc hT.2.2.1).1]
  · rw [put_s, ro _ (by omega), qo _ (by omega) (by omega), hT.2.2.2.2.1, mvF_97 hm]
  · rw [put_row (by omega), ro _ (by omega), q3, mvF_lie hm hc hf, ← hT.2.2.1 _ (srcF_lt hm hc)]
    exact shP_at hm hc hp (fun c hc => by rw [hT.2.2.1 c hc]; exact hT.2.2.2.2.2 c hc)
  · rw [put_row (by omega), ro _ (by omega), qo _ (by omega) (by omega)]
  · rw [put_nk hk, ro _ (by omega), qo _ (by omega) (by omega)]
theorem bXor_1 {m : Int} (hm : 0 ≤ m ∧ m < 4) : bXor m 1 = opM m := by rcases m4 hm with rfl | rfl | rfl | rfl <;> decide
theorem S_takeBack {d t : Nat} {m : Int} {h : AH} {g : TF} (hd : 3 ≤ d) (ht : isToy t) (hg : h 1000 = rgT) (hm : 0 ≤ m ∧ m < 4) (hT : TR h t (mvF g m)) (hf : lieOk g) : ∃ h', (∀ Q, call d 26 [.inr (.inr (some t)), .inl m] G1 h Q = Q none G1 h') ∧ TR h' t g ∧ FT t h h' := by
  obtain ⟨d, rfl, hd2⟩ := pos_of hd
  have hs := toy_s ht
  have hop := opM_ok hm
  have hp := TR_perm hT (mvF_ok hm hf)
  have hb0 : ∀ c, c < 14 → 0 ≤ h (t + 5) c ∧ h (t + 5) c < 14 := hp.1
  have hx := bXor_1 hm
  generalize e1 : setR (setR h (t + 5) (shH (h (t + 5)) (opM m))) (t + 3) (shP (h (t + 3)) (h (t + 5)) (opM m)) = h1
  have g1 : h1 1000 = rgT := by rw [← e1, setR_n (by omega), setR_n (by omega), hg]
  have q5 : h1 (t + 5) = shH (h (t + 5)) (opM m) := by rw [← e1, setR_n (by omega), setR_s]
  have q3 : h1 (t + 3) = shP (h (t + 3)) (h (t + 5)) (opM m) := by rw [← e1, setR_s]
  have qo : ∀ a, ¬ a = t + 5 → ¬ a = t + 3 → h1 a = h a := fun a z1 z2 => by rw [← e1, setR_n z2, setR_n z1]
  have q5c : ∀ c, c < 14 → h1 (t + 5) c = g (69 + c) := fun c hc => by
    rw [q5, shH_at hop.1 hc, hT.2.2.1 _ (srcF_lt hop.1 hc), mvF_lie hm (srcF_lt hop.1 hc) hf, srcF_op hm c hc]
  have hb1 : ∀ c, c < 14 → 0 ≤ h1 (t + 5) c ∧ h1 (t + 5) c < 14 := fun c hc => by rw [q5c c hc]; exact hf.1 c hc
  have hp1 : permR (h1 (t + 5)) := ⟨hb1, fun c hc e he z => by rw [q5c c hc, q5c e he] at z; exact hf.2 c hc e he z⟩
  generalize e2 : (if m < 2 then h1 else setR h1 (t + 4) (brB (h1 (t + 4)) (h1 (t + 5)) (-1))) = h2
  have r4 : ∀ i, i < 14 → h2 (t + 4) i = g (83 + i) := by
    intro i hi
    rw [← e2]
    by_cases z : m < 2
    · rw [if_pos z, qo _ (by omega) (by omega), hT.2.2.2.1 i hi, mvF_brn hm hi hf, if_pos z, Int.add_zero]
    · rw [if_neg z, setR_s, brB_at hp1, qo _ (by omega) (by omega), hT.2.2.2.1 i hi, mvF_brn hm hi hf, if_neg z, (incQ_inc q5c).2]
      omega
  have ro : ∀ a, ¬ a = t + 4 → h2 a = h1 a := fun a z1 => by
    rw [← e2]
    by_cases z : m < 2
    · rw [if_pos z]
    · rw [if_neg z, setR_n z1]
  refine ⟨put h2 t 6 (h2 t 6 - 1), fun Q => ?_, ⟨fun i hi => ?_, fun i hi => ?_, fun c hc => ?_, fun i hi => ?_, ?_, fun c hc => ?_⟩, ⟨fun a ha => ?_, fun k hk => ?_⟩⟩
  · rw [C_26]
    simp (disch := first | omega | assumption) only [X_26_0, X_26_1, X_26_4_t, X_26_4_f, X_26_4, X_26_7, X_26_8, X_26_9, X_26_10, X_26_11, X_26_14, X_26_15, X_26_16, X_26_17, X_26_20, X_26_21, X_26_22, X_26_25, X_26_26, X_26_27, X_26_30, S_isMove_t, hx, S_shift, S_bear, pushR_some, pushR_none, e1, e2]
  · rw [put_row (by omega), ro _ (by omega), qo _ (by omega) (by omega), hT.1 i hi, mvF_lo hm (by omega) hf]
  · rw [put_row (by omega), ro _ (by omega), qo _ (by omega) (by omega), hT.2.1 i hi, mvF_lo hm (by omega) hf]
  · rw [put_row (by omega), ro _ (by omega), q5c c hc]
  · rw [put_row (by omega), r4 i hi]
  · rw [put_s, ro _ (by omega), qo _ (by omega) (by omega), hT.2.2.2.2.1, mvF_97 hm]
    omega
  · rw [put_row (by omega), ro _ (by omega), q3, ← q5c c hc, q5, shH_at hop.1 hc]
    exact shP_at hop.1 hc hp (fun c hc => by rw [hT.2.2.1 c hc]; exact hT.2.2.2.2.2 c hc)
  · rw [put_row (by omega), ro _ (by omega), qo _ (by omega) (by omega)]
  · rw [put_nk hk, ro _ (by omega), qo _ (by omega) (by omega)]
