/-! 26: a move -/
abbrev TF : Type := Nat → Int
def putR (f : TF) (k : Nat) (v : Int) : TF := fun s => if s = k then v else f s
def bmpR (f : TF) (k : Nat) (v : Int) : TF := fun s => f s + if s = k then v else 0
def setR (h : AH) (a : Nat) (f : TF) : AH := fun a' => if a' = a then f else h a'
theorem put_set {h : AH} {a k : Nat} {v : Int} : put h a k v = setR h a (putR (h a) k v) := by
  funext a' k'
  unfold put setR putR
  by_cases e : a' = a
  · subst e
    by_cases e2 : k' = k
    · simp [e2]
    · simp [e2]
  · simp [e]
theorem setR_s {h : AH} {a : Nat} {f : TF} : setR h a f a = f := by simp [setR]
theorem setR_n {h : AH} {a b : Nat} {f : TF} (hn : ¬ b = a) : setR h a f b = h b := by simp [setR, hn]
theorem setR_2 {h : AH} {a : Nat} {f g : TF} : setR (setR h a f) a g = setR h a g := by
  funext b
  unfold setR
  by_cases e : b = a <;> simp [e]
theorem setR_c {h : AH} {a b : Nat} {f g f2 : TF} (hn : ¬ a = b) : setR (setR (setR h a f) b g) a f2 = setR (setR h a f2) b g := by
  funext c
  unfold setR
  by_cases e : c = a
  · subst e; simp [hn]
  · simp [e]
theorem setR_e {h : AH} {a : Nat} : setR h a (h a) = h := by
  funext b
  unfold setR
  by_cases e : b = a <;> simp [e]
theorem putR_b {f : TF} {k : Nat} {v : Int} : putR f k (f k + v) = bmpR f k v := by
  funext s
  unfold putR bmpR
  by_cases e : s = k
  · subst e; simp
  · simp [e]
theorem putR_s {f : TF} {k : Nat} {v : Int} : putR f k v k = v := by simp [putR]
theorem putR_n {f : TF} {k s : Nat} {v : Int} (hn : ¬ s = k) : putR f k v s = f s := by simp [putR, hn]
theorem bmpR_n {f : TF} {k s : Nat} {v : Int} (hn : ¬ s = k) : bmpR f k v s = f s := by simp [bmpR, hn]
theorem S3_ringCell {d : Nat} {ring k : Int} {G : AG} {h : AH} {Q : Option AV → AG → AH → Prop} (hd : 1 ≤ d) (hr : ring = 0 ∨ ring = 1) (hk : 0 ≤ k ∧ k < 8) : call d 138 [.inl ring, .inl k] G h Q = Q (some (.inl (if ring = 0 ∨ k = 0 ∨ k = 4 then k else if k < 4 then k + 7 else k + 6))) G h := by
  obtain ⟨d, rfl, -⟩ := pos_of hd
  rw [C_138]
  have hk2 : k = 0 ∨ k = 1 ∨ k = 2 ∨ k = 3 ∨ k = 4 ∨ k = 5 ∨ k = 6 ∨ k = 7 := by omega
  rcases hr with rfl | rfl <;> rcases hk2 with rfl | rfl | rfl | rfl | rfl | rfl | rfl | rfl <;> simp (disch := omega) only [X_138_0, X_138_1_t, X_138_1_f, X_138_1, X_138_4, X_138_5_t, X_138_5_f, X_138_5, X_138_8, X_138_9, X_138_10_t, X_138_10_f, X_138_10, X_138_13, X_138_14, X_138_17, X_138_18, X_138_19_t, X_138_19_f, X_138_19, X_138_22, X_138_23, X_138_25, X_138_26, X_138_29, X_138_30, X_138_32, X_138_33] <;> rfl
/-- the reference's row behind a move -/
def mvF (f : TF) (m : Int) : TF :=
  if m = 0 then putR (putR (putR (putR (putR (putR (putR (putR (putR (f) 76 (f 75)) 75 (f 74)) 74 (f 73)) 73 (f 72)) 72 (f 71)) 71 (f 70)) 70 (f 69)) 69 (f 76)) 97 (f 97 + 1)
  else if m = 1 then putR (putR (putR (putR (putR (putR (putR (putR (putR (f) 69 (f 70)) 70 (f 71)) 71 (f 72)) 72 (f 73)) 73 (f 74)) 74 (f 75)) 75 (f 76)) 76 (f 69)) 97 (f 97 + 1)
  else if m = 2 then putR (putR (putR (putR (putR (putR (putR (putR (putR (bmpR (bmpR (bmpR (bmpR (bmpR (bmpR (bmpR (bmpR (f) (83 + f 69).toNat 1) (83 + f 77).toNat 1) (83 + f 78).toNat 1) (83 + f 79).toNat 1) (83 + f 73).toNat 1) (83 + f 80).toNat 1) (83 + f 81).toNat 1) (83 + f 82).toNat 1) 82 (f 81)) 81 (f 80)) 80 (f 73)) 73 (f 79)) 79 (f 78)) 78 (f 77)) 77 (f 69)) 69 (f 82)) 97 (f 97 + 1)
  else putR (putR (putR (putR (putR (putR (putR (putR (putR (bmpR (bmpR (bmpR (bmpR (bmpR (bmpR (bmpR (bmpR (f) (83 + f 69).toNat 1) (83 + f 77).toNat 1) (83 + f 78).toNat 1) (83 + f 79).toNat 1) (83 + f 73).toNat 1) (83 + f 80).toNat 1) (83 + f 81).toNat 1) (83 + f 82).toNat 1) 69 (f 77)) 77 (f 78)) 78 (f 79)) 79 (f 73)) 73 (f 80)) 80 (f 81)) 81 (f 82)) 82 (f 69)) 97 (f 97 + 1)
/-- beads lie in cells, each in one -/
def lieOk (f : TF) : Prop := (∀ c, c < 14 → 0 ≤ f (69 + c) ∧ f (69 + c) < 14) ∧ ∀ c, c < 14 → ∀ e, e < 14 → f (69 + c) = f (69 + e) → c = e
theorem lie14 {f : TF} (hf : lieOk f) : (0 ≤ f 69 ∧ f 69 < 14) ∧ (0 ≤ f 70 ∧ f 70 < 14) ∧ (0 ≤ f 71 ∧ f 71 < 14) ∧ (0 ≤ f 72 ∧ f 72 < 14) ∧ (0 ≤ f 73 ∧ f 73 < 14) ∧ (0 ≤ f 74 ∧ f 74 < 14) ∧ (0 ≤ f 75 ∧ f 75 < 14) ∧ (0 ≤ f 76 ∧ f 76 < 14) ∧ (0 ≤ f 77 ∧ f 77 < 14) ∧ (0 ≤ f 78 ∧ f 78 < 14) ∧ (0 ≤ f 79 ∧ f 79 < 14) ∧ (0 ≤ f 80 ∧ f 80 < 14) ∧ (0 ≤ f 81 ∧ f 81 < 14) ∧ (0 ≤ f 82 ∧ f 82 < 14) := ⟨hf.1 0 (by decide), hf.1 1 (by decide), hf.1 2 (by decide), hf.1 3 (by decide), hf.1 4 (by decide), hf.1 5 (by decide), hf.1 6 (by decide), hf.1 7 (by decide), hf.1 8 (by decide), hf.1 9 (by decide), hf.1 10 (by decide), hf.1 11 (by decide), hf.1 12 (by decide), hf.1 13 (by decide)⟩
set_option maxHeartbeats 4000000 in
theorem S3_goMove {d a : Nat} {m : Int} {h : AH} {Q : Option AV → AG → AH → Prop} (hd : 2 ≤ d) (ha : a = 64 ∨ a = 74) (hm : 0 ≤ m ∧ m < 4) (hf : lieOk (h a)) : call d 147 [.inr (.inr (some a)), .inl m] G1 h Q = Q none G1 (setR h a (mvF (h a) m)) := by
  obtain ⟨d, rfl, hd⟩ := pos_of hd
  have hs : (a < 1000 ∧ (shp G1 a).1 = 0) ∧ (shp G1 a).2 = 98 := by rcases ha with rfl | rfl <;> decide
  have hl := lie14 hf
  rw [C_147]
  have hm2 : m = 0 ∨ m = 1 ∨ m = 2 ∨ m = 3 := by omega
  rcases hm2 with rfl | rfl | rfl | rfl <;> simp (disch := omega) only [X_147_0, X_147_1, X_147_2, X_147_3, X_147_4, X_147_5, X_147_6, X_147_7_t, X_147_7_f, X_147_7, X_147_10, X_147_11, X_147_14, X_147_15, X_147_16, X_147_17, X_147_19, X_147_20, X_147_21_t, X_147_21_f, X_147_21, X_147_24, X_147_26, X_147_29, X_147_30, X_147_33, X_147_34, X_147_35, X_147_37, X_147_38, X_147_40, X_147_42, X_147_44_t, X_147_44_f, X_147_44, X_147_47, X_147_48, X_147_49_t, X_147_49_f, X_147_49, X_147_52, X_147_53, X_147_55, X_147_56, X_147_58, X_147_59, X_147_61, X_147_64, X_147_65, X_147_66, X_147_67, X_147_68, X_147_69, X_147_70, X_147_71, X_147_72, X_147_75, X_147_78, X_147_80, X_147_82, X_147_84_t, X_147_84_f, X_147_84, X_147_87, X_147_88_t, X_147_88_f, X_147_88, X_147_91, X_147_92, X_147_94, X_147_95, X_147_97, X_147_100, X_147_101, X_147_102, X_147_104, X_147_105, X_147_107, X_147_108, X_147_109, X_147_112, X_147_113, X_147_114, X_147_115, X_147_118, X_147_121, X_147_122, X_147_124, X_147_126, X_147_128_t, X_147_128_f, X_147_128, X_147_131, X_147_132_t, X_147_132_f, X_147_132, X_147_135, X_147_136, X_147_138, X_147_139, X_147_141, X_147_144, X_147_145, X_147_146, X_147_148, X_147_149, X_147_151, X_147_152, X_147_153, X_147_156, X_147_157, X_147_158, X_147_159, X_147_162, X_147_165, X_147_166, X_147_168, X_147_169, X_147_170_t, X_147_170_f, X_147_170, X_147_173, X_147_174, X_147_177, X_147_179, X_147_182, X_147_183, X_147_185, X_147_186, X_147_187, X_147_189, X_147_190, X_147_191, X_147_192, X_147_193, X_147_194, S3_ringCell, pushR_some, pushR_none, fixp_n, fixp_i, fixp_l, fixp_r, put_set, setR_s, setR_n, setR_2, setR_c, putR_b, putR_s, putR_n, bmpR_n, Int.reduceAdd, Int.reduceSub, Int.reduceMul, Int.reduceDiv, Int.reduceMod, Int.reduceNeg, Int.reduceToNat, Int.reduceLT, Int.reduceLE, Int.reduceEq, Nat.reduceAdd, Nat.reduceMul, Nat.reduceEqDiff, reduceIte, or_true, true_or, or_false, false_or, or_self, and_true, true_and, and_false, false_and, not_true_eq_false, not_false_eq_true, ne_eq, mvF]
def shH (q : TF) (m : Int) : TF :=
  if m = 0 then putR (putR (putR (putR (putR (putR (putR (putR (q) 0 (q 7)) 7 (q 6)) 6 (q 5)) 5 (q 4)) 4 (q 3)) 3 (q 2)) 2 (q 1)) 1 (q 0)
  else if m = 1 then putR (putR (putR (putR (putR (putR (putR (putR (q) 0 (q 1)) 1 (q 2)) 2 (q 3)) 3 (q 4)) 4 (q 5)) 5 (q 6)) 6 (q 7)) 7 (q 0)
  else if m = 2 then putR (putR (putR (putR (putR (putR (putR (putR (q) 0 (q 13)) 13 (q 12)) 12 (q 11)) 11 (q 4)) 4 (q 10)) 10 (q 9)) 9 (q 8)) 8 (q 0)
  else putR (putR (putR (putR (putR (putR (putR (putR (q) 0 (q 8)) 8 (q 9)) 9 (q 10)) 10 (q 4)) 4 (q 11)) 11 (q 12)) 12 (q 13)) 13 (q 0)
def shP (p q : TF) (m : Int) : TF :=
  if m = 0 then putR (putR (putR (putR (putR (putR (putR (putR (p) (q 7).toNat 0) (q 6).toNat 7) (q 5).toNat 6) (q 4).toNat 5) (q 3).toNat 4) (q 2).toNat 3) (q 1).toNat 2) (q 0).toNat 1
  else if m = 1 then putR (putR (putR (putR (putR (putR (putR (putR (p) (q 1).toNat 0) (q 2).toNat 1) (q 3).toNat 2) (q 4).toNat 3) (q 5).toNat 4) (q 6).toNat 5) (q 7).toNat 6) (q 0).toNat 7
  else if m = 2 then putR (putR (putR (putR (putR (putR (putR (putR (p) (q 13).toNat 0) (q 12).toNat 13) (q 11).toNat 12) (q 4).toNat 11) (q 10).toNat 4) (q 9).toNat 10) (q 8).toNat 9) (q 0).toNat 8
  else putR (putR (putR (putR (putR (putR (putR (putR (p) (q 8).toNat 0) (q 9).toNat 8) (q 10).toNat 9) (q 4).toNat 10) (q 11).toNat 4) (q 12).toNat 11) (q 13).toNat 12) (q 0).toNat 13
def brB (b q : TF) (v : Int) : TF := bmpR (bmpR (bmpR (bmpR (bmpR (bmpR (bmpR (bmpR (b) (q 0).toNat v) (q 8).toNat v) (q 9).toNat v) (q 10).toNat v) (q 4).toNat v) (q 11).toNat v) (q 12).toNat v) (q 13).toNat v
theorem rgT_0 : rgT 0 = 0 := by decide
theorem rgT_1 : rgT 1 = 1 := by decide
theorem rgT_2 : rgT 2 = 2 := by decide
theorem rgT_3 : rgT 3 = 3 := by decide
theorem rgT_4 : rgT 4 = 4 := by decide
theorem rgT_5 : rgT 5 = 5 := by decide
theorem rgT_6 : rgT 6 = 6 := by decide
theorem rgT_7 : rgT 7 = 7 := by decide
theorem rgT_8 : rgT 8 = 0 := by decide
theorem rgT_9 : rgT 9 = 8 := by decide
theorem rgT_10 : rgT 10 = 9 := by decide
theorem rgT_11 : rgT 11 = 10 := by decide
theorem rgT_12 : rgT 12 = 4 := by decide
theorem rgT_13 : rgT 13 = 11 := by decide
theorem rgT_14 : rgT 14 = 12 := by decide
theorem rgT_15 : rgT 15 = 13 := by decide
set_option maxHeartbeats 4000000 in
theorem S_shift {d t : Nat} {m : Int} {h : AH} {Q : Option AV → AG → AH → Prop} (hd : 2 ≤ d) (ht : isToy t) (hg : h 1000 = rgT) (hm : 0 ≤ m ∧ m < 4) (hf : ∀ c, c < 14 → 0 ≤ h (t + 5) c ∧ h (t + 5) c < 14) : call d 27 [.inr (.inr (some t)), .inl m] G1 h Q = Q none G1 (setR (setR h (t + 5) (shH (h (t + 5)) m)) (t + 3) (shP (h (t + 3)) (h (t + 5)) m)) := by
  obtain ⟨d, rfl, hd⟩ := pos_of hd
  have hs := toy_s ht
  have hl : (0 ≤ h (t + 5) 0 ∧ h (t + 5) 0 < 14) ∧ (0 ≤ h (t + 5) 1 ∧ h (t + 5) 1 < 14) ∧ (0 ≤ h (t + 5) 2 ∧ h (t + 5) 2 < 14) ∧ (0 ≤ h (t + 5) 3 ∧ h (t + 5) 3 < 14) ∧ (0 ≤ h (t + 5) 4 ∧ h (t + 5) 4 < 14) ∧ (0 ≤ h (t + 5) 5 ∧ h (t + 5) 5 < 14) ∧ (0 ≤ h (t + 5) 6 ∧ h (t + 5) 6 < 14) ∧ (0 ≤ h (t + 5) 7 ∧ h (t + 5) 7 < 14) ∧ (0 ≤ h (t + 5) 8 ∧ h (t + 5) 8 < 14) ∧ (0 ≤ h (t + 5) 9 ∧ h (t + 5) 9 < 14) ∧ (0 ≤ h (t + 5) 10 ∧ h (t + 5) 10 < 14) ∧ (0 ≤ h (t + 5) 11 ∧ h (t + 5) 11 < 14) ∧ (0 ≤ h (t + 5) 12 ∧ h (t + 5) 12 < 14) ∧ (0 ≤ h (t + 5) 13 ∧ h (t + 5) 13 < 14) := ⟨hf 0 (by decide), hf 1 (by decide), hf 2 (by decide), hf 3 (by decide), hf 4 (by decide), hf 5 (by decide), hf 6 (by decide), hf 7 (by decide), hf 8 (by decide), hf 9 (by decide), hf 10 (by decide), hf 11 (by decide), hf 12 (by decide), hf 13 (by decide)⟩
  have hg1 : ∀ f g : TF, setR (setR h (t + 5) f) (t + 3) g 1000 = rgT := fun f g => by rw [setR_n (by omega), setR_n (by omega), hg]
  rw [C_27]
  have hm2 : m = 0 ∨ m = 1 ∨ m = 2 ∨ m = 3 := by omega
  rcases hm2 with rfl | rfl | rfl | rfl <;> simp (disch := first | omega | assumption) only [X_27_0, X_27_2, X_27_3, X_27_4, X_27_5, X_27_6, X_27_7, X_27_8, X_27_9, X_27_10_t, X_27_10_f, X_27_10, X_27_13, X_27_15, X_27_18, X_27_19, X_27_20, X_27_21, X_27_23, X_27_24, X_27_25, X_27_28, X_27_31, X_27_33, X_27_34, X_27_36, X_27_38, X_27_40_t, X_27_40_f, X_27_40, X_27_43, X_27_45, X_27_46, X_27_47, X_27_49, X_27_50, X_27_52, X_27_53, X_27_54, X_27_56, X_27_57, X_27_60, X_27_61, X_27_62, X_27_64, X_27_65, X_27_68, X_27_71, X_27_74, X_27_76, X_27_78, X_27_81, X_27_84, X_27_85, X_27_86, X_27_88, X_27_89, X_27_92, X_27_94, X_27_97, S_ringCell, S_beadIn, S_lieIn, hg, hg1, rgT_0, rgT_1, rgT_2, rgT_3, rgT_4, rgT_5, rgT_6, rgT_7, rgT_8, rgT_9, rgT_10, rgT_11, rgT_12, rgT_13, rgT_14, rgT_15, pushR_some, pushR_none, fixp_n, fixp_i, fixp_l, fixp_r, put_set, setR_s, setR_n, setR_2, setR_c, putR_b, putR_s, putR_n, bmpR_n, Int.reduceAdd, Int.reduceSub, Int.reduceMul, Int.reduceDiv, Int.reduceMod, Int.reduceNeg, Int.reduceToNat, Int.reduceLT, Int.reduceLE, Int.reduceEq, Nat.reduceAdd, Nat.reduceMul, Nat.reduceEqDiff, reduceIte, or_true, true_or, or_false, false_or, or_self, and_true, true_and, and_false, false_and, not_true_eq_false, not_false_eq_true, ne_eq, shH, shP]
set_option maxHeartbeats 4000000 in
theorem S_bear {d t : Nat} {m v : Int} {h : AH} {Q : Option AV → AG → AH → Prop} (hd : 2 ≤ d) (ht : isToy t) (hg : h 1000 = rgT) (hm : 0 ≤ m ∧ m < 4) (hf : ∀ c, c < 14 → 0 ≤ h (t + 5) c ∧ h (t + 5) c < 14) : call d 29 [.inr (.inr (some t)), .inl m, .inl v] G1 h Q = Q none G1 (if m < 2 then h else setR h (t + 4) (brB (h (t + 4)) (h (t + 5)) v)) := by
  obtain ⟨d, rfl, hd⟩ := pos_of hd
  have hs := toy_s ht
  have hr := toy_r ht
  have hl : (0 ≤ h (t + 5) 0 ∧ h (t + 5) 0 < 14) ∧ (0 ≤ h (t + 5) 1 ∧ h (t + 5) 1 < 14) ∧ (0 ≤ h (t + 5) 2 ∧ h (t + 5) 2 < 14) ∧ (0 ≤ h (t + 5) 3 ∧ h (t + 5) 3 < 14) ∧ (0 ≤ h (t + 5) 4 ∧ h (t + 5) 4 < 14) ∧ (0 ≤ h (t + 5) 5 ∧ h (t + 5) 5 < 14) ∧ (0 ≤ h (t + 5) 6 ∧ h (t + 5) 6 < 14) ∧ (0 ≤ h (t + 5) 7 ∧ h (t + 5) 7 < 14) ∧ (0 ≤ h (t + 5) 8 ∧ h (t + 5) 8 < 14) ∧ (0 ≤ h (t + 5) 9 ∧ h (t + 5) 9 < 14) ∧ (0 ≤ h (t + 5) 10 ∧ h (t + 5) 10 < 14) ∧ (0 ≤ h (t + 5) 11 ∧ h (t + 5) 11 < 14) ∧ (0 ≤ h (t + 5) 12 ∧ h (t + 5) 12 < 14) ∧ (0 ≤ h (t + 5) 13 ∧ h (t + 5) 13 < 14) := ⟨hf 0 (by decide), hf 1 (by decide), hf 2 (by decide), hf 3 (by decide), hf 4 (by decide), hf 5 (by decide), hf 6 (by decide), hf 7 (by decide), hf 8 (by decide), hf 9 (by decide), hf 10 (by decide), hf 11 (by decide), hf 12 (by decide), hf 13 (by decide)⟩
  have hg1 : ∀ f : TF, setR h (t + 4) f 1000 = rgT := fun f => by rw [setR_n (by omega), hg]
  rw [C_29]
  have hm2 : m = 0 ∨ m = 1 ∨ m = 2 ∨ m = 3 := by omega
  rcases hm2 with rfl | rfl | rfl | rfl <;> simp (disch := first | omega | assumption) only [X_29_0, X_29_1, X_29_2, X_29_3, X_29_4_t, X_29_4_f, X_29_4, X_29_7, X_29_9, X_29_10, X_29_11, X_29_13_t, X_29_13_f, X_29_13, X_29_16, X_29_17, X_29_18, X_29_21, X_29_24, X_29_26, X_29_28_t, X_29_28_f, X_29_28, X_29_31, X_29_33, X_29_35_t, X_29_35_f, X_29_35, X_29_38, X_29_39, X_29_42, X_29_44, X_29_45, X_29_46, X_29_47, X_29_48, X_29_49, X_29_52, X_29_55, S_ringCell, S_beadIn, hr, hg, hg1, rgT_0, rgT_1, rgT_2, rgT_3, rgT_4, rgT_5, rgT_6, rgT_7, rgT_8, rgT_9, rgT_10, rgT_11, rgT_12, rgT_13, rgT_14, rgT_15, pushR_some, pushR_none, fixp_n, fixp_i, fixp_l, fixp_r, put_set, setR_s, setR_n, setR_2, setR_c, putR_b, putR_s, putR_n, bmpR_n, Int.reduceAdd, Int.reduceSub, Int.reduceMul, Int.reduceDiv, Int.reduceMod, Int.reduceNeg, Int.reduceToNat, Int.reduceLT, Int.reduceLE, Int.reduceEq, Nat.reduceAdd, Nat.reduceMul, Nat.reduceEqDiff, reduceIte, or_true, true_or, or_false, false_or, or_self, and_true, true_and, and_false, false_and, not_true_eq_false, not_false_eq_true, ne_eq, brB]
