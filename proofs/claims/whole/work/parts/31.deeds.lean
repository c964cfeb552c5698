/-! 31: deeds -/
theorem mvF_hi {f : TF} {m : Int} {s : Nat} (hm : 0 ≤ m ∧ m < 4) (hs : 98 ≤ s) (hf : lieOk f) : mvF f m s = f s := by
  have hl := lie14 hf
  unfold mvF
  rcases m4 hm with rfl | rfl | rfl | rfl <;> simp (disch := omega) only [putR_n, bmpR_n, Int.reduceAdd, Int.reduceSub, Int.reduceMul, Int.reduceDiv, Int.reduceMod, Int.reduceNeg, Int.reduceToNat, Int.reduceLT, Int.reduceLE, Int.reduceEq, Nat.reduceAdd, Nat.reduceMul, Nat.reduceEqDiff, reduceIte, or_true, true_or, or_false, false_or, or_self, and_true, true_and, and_false, false_and, not_true_eq_false, not_false_eq_true, ne_eq]
theorem inc_01 {f : TF} {i : Int} (hf : lieOk f) : 0 ≤ inc f i ∧ inc f i ≤ 1 := by
  have ne : ∀ a b, a < 14 → b < 14 → a ≠ b → f (69 + a) = i → ¬ f (69 + b) = i := fun a b ha hb hab e1 e2 => hab (hf.2 a ha b hb (e1.trans e2.symm))
  unfold inc
  by_cases e0 : f 69 = i
  · rw [if_pos e0, if_neg (ne 0 8 (by omega) (by omega) (by omega) e0), if_neg (ne 0 9 (by omega) (by omega) (by omega) e0), if_neg (ne 0 10 (by omega) (by omega) (by omega) e0), if_neg (ne 0 4 (by omega) (by omega) (by omega) e0), if_neg (ne 0 11 (by omega) (by omega) (by omega) e0), if_neg (ne 0 12 (by omega) (by omega) (by omega) e0), if_neg (ne 0 13 (by omega) (by omega) (by omega) e0)]
    omega
  by_cases e1 : f 77 = i
  · rw [if_pos e1, if_neg (ne 8 0 (by omega) (by omega) (by omega) e1), if_neg (ne 8 9 (by omega) (by omega) (by omega) e1), if_neg (ne 8 10 (by omega) (by omega) (by omega) e1), if_neg (ne 8 4 (by omega) (by omega) (by omega) e1), if_neg (ne 8 11 (by omega) (by omega) (by omega) e1), if_neg (ne 8 12 (by omega) (by omega) (by omega) e1), if_neg (ne 8 13 (by omega) (by omega) (by omega) e1)]
    omega
  by_cases e2 : f 78 = i
  · rw [if_pos e2, if_neg (ne 9 0 (by omega) (by omega) (by omega) e2), if_neg (ne 9 8 (by omega) (by omega) (by omega) e2), if_neg (ne 9 10 (by omega) (by omega) (by omega) e2), if_neg (ne 9 4 (by omega) (by omega) (by omega) e2), if_neg (ne 9 11 (by omega) (by omega) (by omega) e2), if_neg (ne 9 12 (by omega) (by omega) (by omega) e2), if_neg (ne 9 13 (by omega) (by omega) (by omega) e2)]
    omega
  by_cases e3 : f 79 = i
  · rw [if_pos e3, if_neg (ne 10 0 (by omega) (by omega) (by omega) e3), if_neg (ne 10 8 (by omega) (by omega) (by omega) e3), if_neg (ne 10 9 (by omega) (by omega) (by omega) e3), if_neg (ne 10 4 (by omega) (by omega) (by omega) e3), if_neg (ne 10 11 (by omega) (by omega) (by omega) e3), if_neg (ne 10 12 (by omega) (by omega) (by omega) e3), if_neg (ne 10 13 (by omega) (by omega) (by omega) e3)]
    omega
  by_cases e4 : f 73 = i
  · rw [if_pos e4, if_neg (ne 4 0 (by omega) (by omega) (by omega) e4), if_neg (ne 4 8 (by omega) (by omega) (by omega) e4), if_neg (ne 4 9 (by omega) (by omega) (by omega) e4), if_neg (ne 4 10 (by omega) (by omega) (by omega) e4), if_neg (ne 4 11 (by omega) (by omega) (by omega) e4), if_neg (ne 4 12 (by omega) (by omega) (by omega) e4), if_neg (ne 4 13 (by omega) (by omega) (by omega) e4)]
    omega
  by_cases e5 : f 80 = i
  · rw [if_pos e5, if_neg (ne 11 0 (by omega) (by omega) (by omega) e5), if_neg (ne 11 8 (by omega) (by omega) (by omega) e5), if_neg (ne 11 9 (by omega) (by omega) (by omega) e5), if_neg (ne 11 10 (by omega) (by omega) (by omega) e5), if_neg (ne 11 4 (by omega) (by omega) (by omega) e5), if_neg (ne 11 12 (by omega) (by omega) (by omega) e5), if_neg (ne 11 13 (by omega) (by omega) (by omega) e5)]
    omega
  by_cases e6 : f 81 = i
  · rw [if_pos e6, if_neg (ne 12 0 (by omega) (by omega) (by omega) e6), if_neg (ne 12 8 (by omega) (by omega) (by omega) e6), if_neg (ne 12 9 (by omega) (by omega) (by omega) e6), if_neg (ne 12 10 (by omega) (by omega) (by omega) e6), if_neg (ne 12 4 (by omega) (by omega) (by omega) e6), if_neg (ne 12 11 (by omega) (by omega) (by omega) e6), if_neg (ne 12 13 (by omega) (by omega) (by omega) e6)]
    omega
  by_cases e7 : f 82 = i
  · rw [if_pos e7, if_neg (ne 13 0 (by omega) (by omega) (by omega) e7), if_neg (ne 13 8 (by omega) (by omega) (by omega) e7), if_neg (ne 13 9 (by omega) (by omega) (by omega) e7), if_neg (ne 13 10 (by omega) (by omega) (by omega) e7), if_neg (ne 13 4 (by omega) (by omega) (by omega) e7), if_neg (ne 13 11 (by omega) (by omega) (by omega) e7), if_neg (ne 13 12 (by omega) (by omega) (by omega) e7)]
    omega
  rw [if_neg e0, if_neg e1, if_neg e2, if_neg e3, if_neg e4, if_neg e5, if_neg e6, if_neg e7]
  omega
theorem mvF_ty {f : TF} {m N : Int} (hm : 0 ≤ m ∧ m < 4) (hf : tyOk f N) : tyOk (mvF f m) (N + 1) := by
  obtain ⟨a0, a1, a2, a3, a4, a5, a6⟩ := hf
  refine ⟨mvF_ok hm a0, fun i hi => ?_, fun i hi => ?_, fun i hi => ?_, fun i hi => ?_, ?_, ?_⟩
  · obtain ⟨c, hc, e⟩ := a1 i hi
    refine ⟨srcF (opM m) c, srcF_lt (opM_ok hm).1 hc, ?_⟩
    rw [mvF_lie hm (srcF_lt (opM_ok hm).1 hc) a0, srcF_op hm c hc, e]
  · rw [mvF_lo hm (by omega) a0]; exact a2 i hi
  · rw [mvF_lo hm (by omega) a0]; exact a3 i hi
  · rw [mvF_brn hm hi a0, mvF_97 hm]
    have b1 := a4 i hi
    have b2 := inc_01 (i := (i : Int)) a0
    by_cases z : m < 2
    · rw [if_pos z]; omega
    · rw [if_neg z]; omega
  · rw [mvF_97 hm]; omega
  · rw [mvF_97 hm]; omega
/-- beads of two cells are exchanged -/
def exF (f : TF) (c e : Nat) : TF := putR (putR f (69 + c) (f (69 + e))) (69 + e) (f (69 + c))
def swp (c e x : Nat) : Nat := if x = e then c else if x = c then e else x
theorem swp_lt {c e x : Nat} (hc : c < 14) (he : e < 14) (hx : x < 14) : swp c e x < 14 := by unfold swp; split <;> (try split) <;> omega
theorem swp_inv {c e x : Nat} : swp c e (swp c e x) = x := by unfold swp; (repeat' split) <;> omega
theorem exF_lie {f : TF} {c e x : Nat} : exF f c e (69 + x) = f (69 + swp c e x) := by
  unfold exF putR swp
  by_cases e1 : x = e
  · subst e1; simp
  · by_cases e2 : x = c
    · subst e2
      rw [if_neg (by omega), if_neg e1, if_pos rfl, if_pos rfl]
    · rw [if_neg (by omega), if_neg (by omega), if_neg e1, if_neg e2]
theorem exF_n {f : TF} {c e s : Nat} (hc : c < 14) (he : e < 14) (hs : s < 69 ∨ 83 ≤ s) : exF f c e s = f s := by
  unfold exF
  rw [putR_n (by omega), putR_n (by omega)]
theorem exF_2 {f : TF} {c e : Nat} (hc : c < 14) (he : e < 14) : exF (exF f c e) c e = f := by
  funext s
  by_cases z : s < 69 ∨ 83 ≤ s
  · rw [exF_n hc he z, exF_n hc he z]
  · obtain ⟨x, rfl⟩ : ∃ x, s = 69 + x := ⟨s - 69, by omega⟩
    rw [exF_lie, exF_lie, swp_inv]
theorem exF_ok {f : TF} {c e : Nat} (hc : c < 14) (he : e < 14) (hf : lieOk f) : lieOk (exF f c e) := by
  refine ⟨fun x hx => ?_, fun x hx y hy q => ?_⟩
  · rw [exF_lie]; exact hf.1 _ (swp_lt hc he hx)
  · rw [exF_lie, exF_lie] at q
    have := hf.2 _ (swp_lt hc he hx) _ (swp_lt hc he hy) q
    have h2 := congrArg (swp c e) this
    rwa [swp_inv, swp_inv] at h2
theorem exF_ty {f : TF} {c e : Nat} {N : Int} (hc : c < 14) (he : e < 14) (hf : tyOk f N) : tyOk (exF f c e) N := by
  obtain ⟨a0, a1, a2, a3, a4, a5, a6⟩ := hf
  refine ⟨exF_ok hc he a0, fun i hi => ?_, fun i hi => ?_, fun i hi => ?_, fun i hi => ?_, ?_, ?_⟩
  · obtain ⟨x, hx, q⟩ := a1 i hi
    exact ⟨swp c e x, swp_lt hc he hx, by rw [exF_lie, swp_inv, q]⟩
  · rw [exF_n hc he (by omega)]; exact a2 i hi
  · rw [exF_n hc he (by omega)]; exact a3 i hi
  · rw [exF_n hc he (by omega), exF_n hc he (by omega)]; exact a4 i hi
  · rw [exF_n hc he (by omega)]; exact a5
  · rw [exF_n hc he (by omega)]; exact a6
/-- a deed by its code: 0 .. 3 a move, 4 nothing, from 100 on an exchange -/
def dOk (x : Int) : Prop := (0 ≤ x ∧ x ≤ 4) ∨ (100 ≤ x ∧ x < 296)
def dF (f : TF) (x : Int) : TF := if 100 ≤ x then exF f ((x - 100) / 14).toNat ((x - 100) % 14).toNat else if x = 4 then f else mvF f x
theorem S3_goExchange {d a c e : Nat} {h : AH} {Q : Option AV → AG → AH → Prop} (hd : 1 ≤ d) (ha : isA a) (hc : c < 14) (he : e < 14) : call d 148 [.inr (.inr (some a)), .inl (c : Int), .inl (e : Int)] G1 h Q = Q none G1 (setR h a (exF (h a) c e)) := by
  obtain ⟨d, rfl, hd2⟩ := pos_of hd
  have hs := isA_s ha
  have e0 : ((69 : Int) + (c : Int)).toNat = 69 + c := by omega
  have e1 : ((69 : Int) + (e : Int)).toNat = 69 + e := by omega
  rw [C_148]
  simp (disch := omega) only [X_148_0, X_148_1, X_148_3, X_148_4, X_148_5, X_148_6, X_148_7, X_148_8, X_148_10, X_148_11, X_148_12, X_148_13, X_148_15, X_148_16, X_148_17, X_148_18, X_148_19, X_148_20, X_148_22, X_148_23, X_148_24, X_148_25, X_148_26, e0, e1, fixp_i, put_set, setR_s, setR_2]
  rfl
theorem S3_goDeed {d a : Nat} {x : Int} {h : AH} {Q : Option AV → AG → AH → Prop} (hd : 3 ≤ d) (ha : isA a) (hx : dOk x) (hf : lieOk (h a)) : call d 149 [.inr (.inr (some a)), .inl x] G1 h Q = Q none G1 (setR h a (dF (h a) x)) := by
  obtain ⟨d, rfl, hd2⟩ := pos_of hd
  have hs := isA_s ha
  unfold dOk at hx
  rw [C_149]
  unfold dF
  by_cases e1 : 100 ≤ x
  · have he : ∀ Q, call d 148 [.inr (.inr (some a)), .inl ((x - 100) / 14), .inl ((x - 100) % 14)] G1 h Q = Q none G1 (setR h a (exF (h a) ((x - 100) / 14).toNat ((x - 100) % 14).toNat)) := fun Q => by
      have q := S3_goExchange (Q := Q) (h := h) (c := ((x - 100) / 14).toNat) (e := ((x - 100) % 14).toNat) (show 1 ≤ d by omega) ha (by omega) (by omega)
      rw [Int.toNat_of_nonneg (by omega), Int.toNat_of_nonneg (by omega)] at q
      exact q
    rw [if_pos e1]
    simp (disch := omega) only [X_149_0, X_149_1, X_149_3_t, X_149_3_f, X_149_3, X_149_6, X_149_7, X_149_8, X_149_10, X_149_11, X_149_13, X_149_14, X_149_15, X_149_17, X_149_18, X_149_20, X_149_21, X_149_24, X_149_27, X_149_28, X_149_29_t, X_149_29_f, X_149_29, X_149_32, X_149_33, X_149_34, X_149_37, he, pushR_none]
  · rw [if_neg e1]
    by_cases e2 : x = 4
    · rw [if_pos e2, setR_e]
      simp (disch := omega) only [X_149_0, X_149_1, X_149_3_t, X_149_3_f, X_149_3, X_149_6, X_149_7, X_149_8, X_149_10, X_149_11, X_149_13, X_149_14, X_149_15, X_149_17, X_149_18, X_149_20, X_149_21, X_149_24, X_149_27, X_149_28, X_149_29_t, X_149_29_f, X_149_29, X_149_32, X_149_33, X_149_34, X_149_37]
    · rw [if_neg e2]
      have hm : ∀ Q, call d 147 [.inr (.inr (some a)), .inl x] G1 h Q = Q none G1 (setR h a (mvF (h a) x)) := fun Q => S3_goMove (by omega) ha (by omega) hf
      simp (disch := omega) only [X_149_0, X_149_1, X_149_3_t, X_149_3_f, X_149_3, X_149_6, X_149_7, X_149_8, X_149_10, X_149_11, X_149_13, X_149_14, X_149_15, X_149_17, X_149_18, X_149_20, X_149_21, X_149_24, X_149_27, X_149_28, X_149_29_t, X_149_29_f, X_149_29, X_149_32, X_149_33, X_149_34, X_149_37, hm, pushR_none]
theorem dF_ok {f : TF} {x : Int} (hx : dOk x) (hf : lieOk f) : lieOk (dF f x) := by
  unfold dOk at hx
  unfold dF
  split
  · exact exF_ok (by omega) (by omega) hf
  · split
    · exact hf
    · exact mvF_ok (by omega) hf
theorem dF_ty {f : TF} {x N : Int} (hx : dOk x) (hf : tyOk f N) : tyOk (dF f x) (N + 1) := by
  unfold dOk at hx
  have up : ∀ {g : TF}, tyOk g N → tyOk g (N + 1) := fun h => ⟨h.1, h.2.1, h.2.2.1, h.2.2.2.1, h.2.2.2.2.1, h.2.2.2.2.2.1, by have := h.2.2.2.2.2.2; omega⟩
  unfold dF
  split
  · exact up (exF_ty (by omega) (by omega) hf)
  · split
    · exact up hf
    · exact mvF_ty (by omega) hf
theorem dF_n {f : TF} {x : Int} {s : Nat} (hx : dOk x) (hf : lieOk f) (hs : s < 69 ∨ 98 ≤ s) : dF f x s = f s := by
  unfold dOk at hx
  unfold dF
  split
  · exact exF_n (by omega) (by omega) (by omega)
  · split
    · rfl
    · rcases hs with hs | hs
      · exact mvF_lo (by omega) hs hf
      · exact mvF_hi (by omega) hs hf
/-- the class's code of a deed, and the other one's -/
def cd (x : Int) : Int := if x = -1 then 4 else if x < 4 then x else x + 96
def xOk (x : Int) : Prop := -1 ≤ x ∧ x < 200
theorem cd_ok {x : Int} (h : xOk x) : dOk (cd x) := by unfold xOk at h; unfold dOk cd; (repeat' split) <;> omega
theorem S_swap {d t c e : Nat} {h : AH} {f : TF} (hd : 2 ≤ d) (ht : isToy t) (hc : c < 14) (he : e < 14) (hT : TR h t f) (hf : lieOk f) : ∃ h', (∀ Q, call d 30 [.inr (.inr (some t)), .inl (4 + 14 * (c : Int) + (e : Int))] G1 h Q = Q none G1 h') ∧ TR h' t (exF f c e) ∧ FT t h h' := by
  obtain ⟨d, rfl, hd2⟩ := pos_of hd
  have hs := toy_s ht
  have q0 : (4 + 14 * (c : Int) + (e : Int) - 4) / 14 = (c : Int) := by omega
  have q1 : (4 + 14 * (c : Int) + (e : Int) - 4) % 14 = (e : Int) := by omega
  have b1 := hf.1 c hc
  have b2 := hf.1 e he
  have t1 : h (t + 5) c = f (69 + c) := hT.2.2.1 c hc
  have t2 : h (t + 5) e = f (69 + e) := hT.2.2.1 e he
  refine ⟨put (put (put (put h (t + 5) c (f (69 + e))) (t + 3) (f (69 + e)).toNat c) (t + 5) e (f (69 + c))) (t + 3) (f (69 + c)).toNat e, fun Q => ?_, ⟨fun i hi => ?_, fun i hi => ?_, fun x hx => ?_, fun i hi => ?_, ?_, fun x hx => ?_⟩, ⟨fun a ha => ?_, fun k hk => ?_⟩⟩
  · rw [C_30]
    simp (disch := first | omega | assumption) only [X_30_0, X_30_1, X_30_2, X_30_3, X_30_5, X_30_6, X_30_7, X_30_8, X_30_9, X_30_10, X_30_12, X_30_13, X_30_14, X_30_15, X_30_16, X_30_19, X_30_21, X_30_22, X_30_23, X_30_24, X_30_25, X_30_28, X_30_31, X_30_32, X_30_33, X_30_35, X_30_38, q0, q1, S_beadIn, S_lieIn, pushR_some, pushR_none, fixp_n, fixp_i, fixp_r, Int.toNat_natCast, t1, t2]
  · simp (disch := omega) only [put_row]; rw [hT.1 i hi, exF_n hc he (by omega)]
  · simp (disch := omega) only [put_row]; rw [hT.2.1 i hi, exF_n hc he (by omega)]
  · rw [put_row (by omega), exF_lie]
    by_cases e1 : x = e
    · subst e1
      rw [put_s]
      unfold swp
      rw [if_pos rfl]
    · rw [put_nk e1, put_row (by omega)]
      by_cases e2 : x = c
      · subst e2
        rw [put_s]
        unfold swp
        rw [if_neg e1, if_pos rfl]
      · rw [put_nk e2, hT.2.2.1 x hx]
        unfold swp
        rw [if_neg e1, if_neg e2]
  · simp (disch := omega) only [put_row]; rw [hT.2.2.2.1 i hi, exF_n hc he (by omega)]
  · simp (disch := omega) only [put_row]; rw [hT.2.2.2.2.1, exF_n hc he (by omega)]
  · rw [exF_lie]
    have hne : ∀ a b, a < 14 → b < 14 → (f (69 + a)).toNat = (f (69 + b)).toNat → a = b := fun a b ha hb q => hf.2 a ha b hb (by have := hf.1 a ha; have := hf.1 b hb; omega)
    unfold swp
    by_cases e1 : x = e
    · subst e1
      rw [if_pos rfl, put_s]
    · rw [if_neg e1]
      by_cases e2 : x = c
      · subst e2
        rw [if_pos rfl, put_nk (fun q => e1 (hne _ _ he hx q).symm), put_row (by omega), put_s]
      · rw [if_neg e2, put_nk (fun q => e2 (hne _ _ hx hc q)), put_row (by omega), put_nk (fun q => e1 (hne _ _ hx he q)), put_row (by omega), hT.2.2.2.2.2 x hx]
  · simp (disch := omega) only [put_row]
  · simp (disch := omega) only [put_row]
