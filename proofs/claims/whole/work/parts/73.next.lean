/-! 73: which move to make next -/
def nxB (gp : Nat → Int) : Nat → Nat → Int → Int → Int
  | 0, _, b, _ => b
  | n + 1, m, b, w => if gp m < w then nxB gp n (m + 1) (m : Int) (gp m) else nxB gp n (m + 1) b w
def nxW (gp : Nat → Int) : Nat → Nat → Int → Int → Int
  | 0, _, _, w => w
  | n + 1, m, b, w => if gp m < w then nxW gp n (m + 1) (m : Int) (gp m) else nxW gp n (m + 1) b w
theorem nxW_b {gp : Nat → Int} (hg : ∀ m, 0 ≤ gp m ∧ gp m ≤ 6) : ∀ {n m : Nat} {b w : Int}, 0 ≤ w ∧ w ≤ 7 → 0 ≤ nxW gp n m b w ∧ nxW gp n m b w ≤ 7
  | 0, _, _, _, h => h
  | n + 1, m, b, w, h => by
    have q := hg m
    unfold nxW
    split
    · exact nxW_b hg (by omega)
    · exact nxW_b hg h
theorem nxB_b {gp : Nat → Int} : ∀ {n m : Nat} {b w : Int}, m + n ≤ 4 → 0 ≤ b ∧ b ≤ 4 → 0 ≤ nxB gp n m b w ∧ nxB gp n m b w ≤ 4
  | 0, _, _, _, _, h => h
  | n + 1, m, b, w, hm, h => by
    unfold nxB
    split
    · exact nxB_b (by omega) (by omega)
    · exact nxB_b (by omega) h
theorem L_next {d i : Nat} {r s S N : Int} {f : TF} (hd : 7 ≤ d) (hi : i < 14) (hN : N + 1 ≤ 900000) (hf : tyOk f N) : ∀ (n m : Nat) (b w : Int) (h : AH) (l8 : Option AV), m + n = 4 → 0 ≤ w ∧ w ≤ 7 → h 1000 = rgT → TR h 3 f → h 3 8 = 1 → ∃ h', (∀ Q, wp d 65 44 [some (.inr (.inr (some 0))), some (.inl (i : Int)), some (.inl r), some (.inl s), some (.inl S), some (.inl b), some (.inl w), some (.inl (m : Int)), l8] [] G1 h Q = Q (some (.inl (nxB (fun m => gpC S (pkF f i (m : Int)) 6) n m b w))) G1 (put h' 0 10 (nxW (fun m => gpC S (pkF f i (m : Int)) 6) n m b w))) ∧ (∀ a, (a < 10 ∨ 16 ≤ a) → ¬ a = 21 → h' a = h a) := by
  have g0 := g1_0
  intro n
  induction n with
  | zero =>
    intro m b w h l8 hm hw eR T3 e8
    obtain rfl : m = 4 := by omega
    refine ⟨h, fun Q => ?_, fun _ _ _ => rfl⟩
    simp (disch := omega) only [X_65_44, X_65_0, X_65_1, X_65_2, X_65_3, X_65_6, X_65_7, X_65_8_t, X_65_8_f, X_65_8, X_65_11, X_65_12, X_65_13, X_65_14, X_65_15, X_65_16, X_65_19, X_65_20, X_65_21, X_65_24, X_65_26, X_65_28_t, X_65_28_f, X_65_28, X_65_31, X_65_33, X_65_34, X_65_35, X_65_37, X_65_39, X_65_41, X_65_42, X_65_46, X_65_47_t, X_65_47_f, X_65_47, X_65_50, X_65_51, X_65_52, X_65_54, X_65_56, X_65_59, X_65_61, X_65_63, X_65_65_t, X_65_65_f, X_65_65, X_65_68, X_65_70, X_65_72, X_65_74, X_65_76, X_65_79, X_65_82, X_65_83, X_65_85, X_65_88, X_65_89, X_65_91, S_told, pushR_some, nxB, nxW]
  | succ n ih =>
    intro m b w h l8 hm hw eR T3 e8
    obtain ⟨h1, c1, F1⟩ := S_gp (d := d) (i := i) (S := S) (m := (m : Int)) (N := N) (f := f) (h := h) hd hi (by omega) hN hf eR T3 e8
    have gb := gpC_b (S := S) (tl := pkF f i (m : Int)) (n := 6)
    have T3b : TR h1 3 f := TR_keep T3 (F1 _ (by omega) (by omega)) (F1 _ (by omega) (by omega)) (F1 _ (by omega) (by omega)) (F1 _ (by omega) (by omega)) (F1 _ (by omega) (by omega)) (by rw [F1 _ (by omega) (by omega)])
    have nx := fun b w hw => ih (m + 1) b w h1 (some (.inl (gpC S (pkF f i (m : Int)) 6))) (by omega) hw (by rw [F1 _ (by omega) (by omega), eR]) T3b (by rw [F1 _ (by omega) (by omega), e8])
    by_cases z : gpC S (pkF f i (m : Int)) 6 < w
    · obtain ⟨h', c2, F2⟩ := nx (m : Int) (gpC S (pkF f i (m : Int)) 6) (by omega)
      have e1 : nxB (fun m => gpC S (pkF f i (m : Int)) 6) (n + 1) m b w = nxB (fun m => gpC S (pkF f i (m : Int)) 6) n (m + 1) (m : Int) (gpC S (pkF f i (m : Int)) 6) := by conv => lhs; unfold nxB; rw [if_pos z]
      have e2 : nxW (fun m => gpC S (pkF f i (m : Int)) 6) (n + 1) m b w = nxW (fun m => gpC S (pkF f i (m : Int)) 6) n (m + 1) (m : Int) (gpC S (pkF f i (m : Int)) 6) := by conv => lhs; unfold nxW; rw [if_pos z]
      rw [e1, e2]
      refine ⟨h', fun Q => ?_, fun a z1 z2 => by rw [F2 a z1 z2, F1 a z1 z2]⟩
      refine Eq.trans ?_ (c2 Q)
      conv => lhs; rw [X_65_44]
      conv => lhs; simp (disch := omega) only [X_65_0, X_65_1, X_65_2, X_65_3, X_65_6, X_65_7, X_65_8_t, X_65_8_f, X_65_8, X_65_11, X_65_12, X_65_13, X_65_14, X_65_15, X_65_16, X_65_19, X_65_20, X_65_21, X_65_24, X_65_26, X_65_28_t, X_65_28_f, X_65_28, X_65_31, X_65_33, X_65_34, X_65_35, X_65_37, X_65_39, X_65_41, X_65_42, X_65_46, X_65_47_t, X_65_47_f, X_65_47, X_65_50, X_65_51, X_65_52, X_65_54, X_65_56, X_65_59, X_65_61, X_65_63, X_65_65_t, X_65_65_f, X_65_65, X_65_68, X_65_70, X_65_72, X_65_74, X_65_76, X_65_79, X_65_82, X_65_83, X_65_85, X_65_88, X_65_89, X_65_91, c1, pushR_some, fixp_i, natS]
    · obtain ⟨h', c2, F2⟩ := nx b w hw
      have e1 : nxB (fun m => gpC S (pkF f i (m : Int)) 6) (n + 1) m b w = nxB (fun m => gpC S (pkF f i (m : Int)) 6) n (m + 1) b w := by conv => lhs; unfold nxB; rw [if_neg z]
      have e2 : nxW (fun m => gpC S (pkF f i (m : Int)) 6) (n + 1) m b w = nxW (fun m => gpC S (pkF f i (m : Int)) 6) n (m + 1) b w := by conv => lhs; unfold nxW; rw [if_neg z]
      rw [e1, e2]
      refine ⟨h', fun Q => ?_, fun a z1 z2 => by rw [F2 a z1 z2, F1 a z1 z2]⟩
      refine Eq.trans ?_ (c2 Q)
      conv => lhs; rw [X_65_44]
      conv => lhs; simp (disch := omega) only [X_65_0, X_65_1, X_65_2, X_65_3, X_65_6, X_65_7, X_65_8_t, X_65_8_f, X_65_8, X_65_11, X_65_12, X_65_13, X_65_14, X_65_15, X_65_16, X_65_19, X_65_20, X_65_21, X_65_24, X_65_26, X_65_28_t, X_65_28_f, X_65_28, X_65_31, X_65_33, X_65_34, X_65_35, X_65_37, X_65_39, X_65_41, X_65_42, X_65_46, X_65_47_t, X_65_47_f, X_65_47, X_65_50, X_65_51, X_65_52, X_65_54, X_65_56, X_65_59, X_65_61, X_65_63, X_65_65_t, X_65_65_f, X_65_65, X_65_68, X_65_70, X_65_72, X_65_74, X_65_76, X_65_79, X_65_82, X_65_83, X_65_85, X_65_88, X_65_89, X_65_91, c1, pushR_some, fixp_i, natS]
/-- hand and tells -/
def hT2 (h : AH) (F T : TF) : AH := setR (setR h 74 F) 75 T
theorem hT2_74 {h : AH} {F T : TF} : hT2 h F T 74 = F := by unfold hT2; rw [setR_n (by omega), setR_s]
theorem hT2_75 {h : AH} {F T : TF} : hT2 h F T 75 = T := by unfold hT2; rw [setR_s]
theorem hT2_o {h : AH} {F T : TF} {a : Nat} (h1 : ¬ a = 74) (h2 : ¬ a = 75) : hT2 h F T a = h a := by unfold hT2; rw [setR_n h2, setR_n h1]
theorem hT2_s74 {h : AH} {F T F' : TF} : setR (hT2 h F T) 74 F' = hT2 h F' T := by unfold hT2; rw [setR_c (by omega)]
theorem hT2_p74 {h : AH} {F T : TF} {k : Nat} {v : Int} : put (hT2 h F T) 74 k v = hT2 h (putR F k v) T := by rw [put_set, hT2_s74, hT2_74]
theorem hT2_p75 {h : AH} {F T : TF} {k : Nat} {v : Int} : put (hT2 h F T) 75 k v = hT2 h F (putR T k v) := by rw [put_set, hT2_75]; unfold hT2; rw [setR_2]
theorem putR_2 {f : TF} {k : Nat} {v w : Int} : putR (putR f k v) k w = putR f k w := by
  funext s
  by_cases e : s = k
  · subst e; rw [putR_s, putR_s]
  · rw [putR_n e, putR_n e, putR_n e]
theorem M_nx1 {d i : Nat} {r s S b w m N : Int} {h : AH} {T0 : TF} (hd : 3 ≤ d) (hi : i < 14) (hm : 0 ≤ m ∧ m < 4) (hN : N + 1 ≤ 900000) (hf : tyOk (h 64) N) : ∀ (n k : Nat) (F : TF), k + n = 6 → (∀ s, 98 ≤ s → F s = h 64 s) → ∃ F' : TF, (∀ s, 98 ≤ s → F' s = h 64 s) ∧ ∀ Q, wp d 183 66 [some (.inr (.inr (some 63))), some (.inl (i : Int)), some (.inl r), some (.inl s), some (.inl S), some (.inl b), some (.inl w), some (.inl m), some (.inl (k : Int))] [] G1 (hT2 h F (mixR k (pkF (h 64) i m) T0)) Q = wp d 183 145 [some (.inr (.inr (some 63))), some (.inl (i : Int)), some (.inl r), some (.inl s), some (.inl S), some (.inl b), some (.inl w), some (.inl m), some (.inl ((6 : Nat) : Int))] [] G1 (hT2 h F' (mixR 6 (pkF (h 64) i m) T0)) Q := by
  have g0 := g1_63
  have g74 := g1_74
  have g75 := g1_75
  intro n
  induction n with
  | zero =>
    intro k F hk hF
    obtain rfl : k = 6 := by omega
    refine ⟨F, hF, fun Q => ?_⟩
    conv => lhs; rw [X_183_66]
    simp (disch := omega) only [X_183_0, X_183_1, X_183_2, X_183_5_t, X_183_5_f, X_183_5, X_183_8, X_183_9, X_183_12_t, X_183_12_f, X_183_12, X_183_15, X_183_16, X_183_17, X_183_18, X_183_19, X_183_22, X_183_23, X_183_24, X_183_25_t, X_183_25_f, X_183_25, X_183_28, X_183_29, X_183_30, X_183_31, X_183_32, X_183_33, X_183_36, X_183_38, X_183_40_t, X_183_40_f, X_183_40, X_183_43, X_183_45, X_183_46, X_183_48, X_183_50, X_183_52, X_183_54, X_183_55, X_183_59, X_183_60_t, X_183_60_f, X_183_60, X_183_63, X_183_64, X_183_68, X_183_70_t, X_183_70_f, X_183_70, X_183_73, X_183_74, X_183_77, X_183_78, X_183_81, X_183_82, X_183_83, X_183_84, X_183_86, X_183_87, X_183_88, X_183_91, X_183_93, X_183_95, X_183_96, X_183_97, X_183_100, X_183_102, X_183_105_t, X_183_105_f, X_183_105, X_183_108, X_183_109, X_183_112, X_183_114, X_183_117, X_183_118, X_183_121, X_183_123, X_183_124, X_183_127, X_183_128, X_183_131, X_183_132, X_183_135, X_183_138, X_183_139, X_183_142, X_183_145, X_183_146, X_183_148, X_183_151, X_183_153, X_183_155, X_183_157_t, X_183_157_f, X_183_157, X_183_160, X_183_162, X_183_165, X_183_167, X_183_169, X_183_171, X_183_173_t, X_183_173_f, X_183_173, X_183_176, X_183_178, X_183_181, X_183_183, X_183_185, X_183_188, X_183_191, X_183_192, X_183_194, X_183_197, X_183_199, X_183_201]
  | succ n ih =>
    intro k F hk hF
    have cH : ∀ Q, call d 164 [.inr (.inr (some 63))] G1 (hT2 h F (mixR k (pkF (h 64) i m) T0)) Q = Q none G1 (hT2 h (h 64) (mixR k (pkF (h 64) i m) T0)) := fun Q => by
      rw [S3_layHand (by omega) (fun s hs => by rw [hT2_74, hT2_o (by omega) (by omega)]; exact hF s hs), hT2_o (by omega) (by omega), hT2_s74]
    have ty := kd_ty (kd := (k : Int)) hi (by omega) hf
    generalize eF : putR (h 64) i (k : Int) = f at ty
    have fh : ∀ s, 98 ≤ s → f s = h 64 s := fun s hs => by rw [← eF, putR_n (by omega)]
    have cB : ∀ T Q, call d 146 [.inr (.inr (some 74)), .inl m] G1 (hT2 h f T) Q = if barM f m then Q (some (.inl 1)) G1 (hT2 h f T) else Q (some (.inl 0)) G1 (hT2 h f T) := fun T Q => by
      rw [S3_isBarred (by omega) (Or.inr rfl) hm (by rw [hT2_74]; exact ty.1) (by rw [hT2_74]; exact ty.2.2.1), hT2_74]
    by_cases hb : barM f m
    · have ep : pkF (h 64) i m k = 10 := by unfold pkF; rw [eF, if_pos hb]
      obtain ⟨F', F2, c2⟩ := ih (k + 1) f (by omega) fh
      refine ⟨F', F2, fun Q => ?_⟩
      refine Eq.trans ?_ (c2 Q)
      rw [← mix_put (f := pkF (h 64) i m), ep]
      conv => lhs; rw [X_183_66]
      conv => lhs; simp (disch := omega) only [X_183_0, X_183_1, X_183_2, X_183_5_t, X_183_5_f, X_183_5, X_183_8, X_183_9, X_183_12_t, X_183_12_f, X_183_12, X_183_15, X_183_16, X_183_17, X_183_18, X_183_19, X_183_22, X_183_23, X_183_24, X_183_25_t, X_183_25_f, X_183_25, X_183_28, X_183_29, X_183_30, X_183_31, X_183_32, X_183_33, X_183_36, X_183_38, X_183_40_t, X_183_40_f, X_183_40, X_183_43, X_183_45, X_183_46, X_183_48, X_183_50, X_183_52, X_183_54, X_183_55, X_183_59, X_183_60_t, X_183_60_f, X_183_60, X_183_63, X_183_64, X_183_68, X_183_70_t, X_183_70_f, X_183_70, X_183_73, X_183_74, X_183_77, X_183_78, X_183_81, X_183_82, X_183_83, X_183_84, X_183_86, X_183_87, X_183_88, X_183_91, X_183_93, X_183_95, X_183_96, X_183_97, X_183_100, X_183_102, X_183_105_t, X_183_105_f, X_183_105, X_183_108, X_183_109, X_183_112, X_183_114, X_183_117, X_183_118, X_183_121, X_183_123, X_183_124, X_183_127, X_183_128, X_183_131, X_183_132, X_183_135, X_183_138, X_183_139, X_183_142, X_183_145, X_183_146, X_183_148, X_183_151, X_183_153, X_183_155, X_183_157_t, X_183_157_f, X_183_157, X_183_160, X_183_162, X_183_165, X_183_167, X_183_169, X_183_171, X_183_173_t, X_183_173_f, X_183_173, X_183_176, X_183_178, X_183_181, X_183_183, X_183_185, X_183_188, X_183_191, X_183_192, X_183_194, X_183_197, X_183_199, X_183_201, r1_63_15, r1_63_16, cH, tz0, hT2_p74, hT2_p75, Int.toNat_natCast, eF, cB, if_pos hb, pushR_some, pushR_none, fixp_i, natS]
    · have ty1 := mvF_ty hm ty
      have ck := clF_ok ty1 hi
      have ep : pkF (h 64) i m k = shF (mvF f m) (clF (mvF f m) i) := by unfold pkF; rw [eF, if_neg hb]
      have cG : ∀ T Q, call d 147 [.inr (.inr (some 74)), .inl m] G1 (hT2 h f T) Q = Q none G1 (hT2 h (mvF f m) T) := fun T Q => by
        rw [S3_goMove (by omega) (Or.inr rfl) hm (by rw [hT2_74]; exact ty.1), hT2_74, hT2_s74]
      have cC : ∀ T Q, call d 140 [.inr (.inr (some 74)), .inl (i : Int)] G1 (hT2 h (mvF f m) T) Q = Q (some (.inl (clF (mvF f m) i : Int))) G1 (hT2 h (mvF f m) T) := fun T Q => by
        have q := S3_cellOf (d := d) (a := 74) (c0 := clF (mvF f m) i) (h := hT2 h (mvF f m) T) (Q := Q) (by omega) (Or.inr rfl) ck.1 (by rw [hT2_74]; exact ty1.1)
        rw [hT2_74, ck.2] at q
        exact q
      have cS : ∀ T Q, call d 143 [.inr (.inr (some 74)), .inl (clF (mvF f m) i : Int)] G1 (hT2 h (mvF f m) T) Q = Q (some (.inl (shF (mvF f m) (clF (mvF f m) i)))) G1 (hT2 h (mvF f m) T) := fun T Q => by
        rw [S3_showsIn (N := N + 1) (by omega) (Or.inr rfl) ck.1 (by rw [hT2_74]; exact ty1) (by omega), hT2_74]
      obtain ⟨F', F2, c2⟩ := ih (k + 1) (mvF f m) (by omega) (fun s hs => by rw [mvF_hi hm hs ty.1, fh s hs])
      refine ⟨F', F2, fun Q => ?_⟩
      refine Eq.trans ?_ (c2 Q)
      rw [← mix_put (f := pkF (h 64) i m), ep]
      conv => lhs; rw [X_183_66]
      conv => lhs; simp (disch := omega) only [X_183_0, X_183_1, X_183_2, X_183_5_t, X_183_5_f, X_183_5, X_183_8, X_183_9, X_183_12_t, X_183_12_f, X_183_12, X_183_15, X_183_16, X_183_17, X_183_18, X_183_19, X_183_22, X_183_23, X_183_24, X_183_25_t, X_183_25_f, X_183_25, X_183_28, X_183_29, X_183_30, X_183_31, X_183_32, X_183_33, X_183_36, X_183_38, X_183_40_t, X_183_40_f, X_183_40, X_183_43, X_183_45, X_183_46, X_183_48, X_183_50, X_183_52, X_183_54, X_183_55, X_183_59, X_183_60_t, X_183_60_f, X_183_60, X_183_63, X_183_64, X_183_68, X_183_70_t, X_183_70_f, X_183_70, X_183_73, X_183_74, X_183_77, X_183_78, X_183_81, X_183_82, X_183_83, X_183_84, X_183_86, X_183_87, X_183_88, X_183_91, X_183_93, X_183_95, X_183_96, X_183_97, X_183_100, X_183_102, X_183_105_t, X_183_105_f, X_183_105, X_183_108, X_183_109, X_183_112, X_183_114, X_183_117, X_183_118, X_183_121, X_183_123, X_183_124, X_183_127, X_183_128, X_183_131, X_183_132, X_183_135, X_183_138, X_183_139, X_183_142, X_183_145, X_183_146, X_183_148, X_183_151, X_183_153, X_183_155, X_183_157_t, X_183_157_f, X_183_157, X_183_160, X_183_162, X_183_165, X_183_167, X_183_169, X_183_171, X_183_173_t, X_183_173_f, X_183_173, X_183_176, X_183_178, X_183_181, X_183_183, X_183_185, X_183_188, X_183_191, X_183_192, X_183_194, X_183_197, X_183_199, X_183_201, r1_63_15, r1_63_16, cH, tz0, hT2_p74, hT2_p75, Int.toNat_natCast, eF, cB, if_neg hb, cG, cC, cS, putR_2, pushR_some, pushR_none, fixp_i, natS]
theorem gpT_congr {S : Int} {tl tm : TF} (he : ∀ k, k < 6 → tl k = tm k) : gpT S tl 6 = gpT S tm 6 := by
  have hc : ∀ v n, n ≤ 6 → cnt S tl v n = cnt S tm v n := by
    intro v n
    induction n with
    | zero => intro _; rfl
    | succ n ih =>
      intro hn
      unfold cnt
      rw [ih (by omega), he n (by omega)]
  have hg : ∀ n, n ≤ 6 → gpT S tl n = gpT S tm n := by
    intro n
    induction n with
    | zero => intro _; rfl
    | succ n ih =>
      intro hn
      unfold gpT
      rw [ih (by omega), he n (by omega), hc _ 6 (by omega)]
  exact hg 6 (by omega)
theorem M_nx2 {d i : Nat} {r s S N : Int} {h : AH} (hd : 3 ≤ d) (hi : i < 14) (hN : N + 1 ≤ 900000) (hf : tyOk (h 64) N) : ∀ (n m : Nat) (b w : Int) (F T0 : TF) (l8 : Option AV), m + n = 4 → (-2147483648 ≤ w ∧ w < 2147483648) → (∀ s, 98 ≤ s → F s = h 64 s) → ∃ F' T' : TF, (∀ s, 98 ≤ s → F' s = h 64 s) ∧ ∀ Q, wp d 183 57 [some (.inr (.inr (some 63))), some (.inl (i : Int)), some (.inl r), some (.inl s), some (.inl S), some (.inl b), some (.inl w), some (.inl (m : Int)), l8] [] G1 (hT2 h F T0) Q = Q (some (.inl (nxB (fun m => gpC S (pkF (h 64) i (m : Int)) 6) n m b w))) G1 (put (hT2 h F' T') 63 10 (nxW (fun m => gpC S (pkF (h 64) i (m : Int)) 6) n m b w)) := by
  have g0 := g1_63
  intro n
  induction n with
  | zero =>
    intro m b w F T0 l8 hm hw hF
    obtain rfl : m = 4 := by omega
    refine ⟨F, T0, hF, fun Q => ?_⟩
    conv => lhs; rw [X_183_57]
    simp (disch := omega) only [X_183_0, X_183_1, X_183_2, X_183_5_t, X_183_5_f, X_183_5, X_183_8, X_183_9, X_183_12_t, X_183_12_f, X_183_12, X_183_15, X_183_16, X_183_17, X_183_18, X_183_19, X_183_22, X_183_23, X_183_24, X_183_25_t, X_183_25_f, X_183_25, X_183_28, X_183_29, X_183_30, X_183_31, X_183_32, X_183_33, X_183_36, X_183_38, X_183_40_t, X_183_40_f, X_183_40, X_183_43, X_183_45, X_183_46, X_183_48, X_183_50, X_183_52, X_183_54, X_183_55, X_183_59, X_183_60_t, X_183_60_f, X_183_60, X_183_63, X_183_64, X_183_68, X_183_70_t, X_183_70_f, X_183_70, X_183_73, X_183_74, X_183_77, X_183_78, X_183_81, X_183_82, X_183_83, X_183_84, X_183_86, X_183_87, X_183_88, X_183_91, X_183_93, X_183_95, X_183_96, X_183_97, X_183_100, X_183_102, X_183_105_t, X_183_105_f, X_183_105, X_183_108, X_183_109, X_183_112, X_183_114, X_183_117, X_183_118, X_183_121, X_183_123, X_183_124, X_183_127, X_183_128, X_183_131, X_183_132, X_183_135, X_183_138, X_183_139, X_183_142, X_183_145, X_183_146, X_183_148, X_183_151, X_183_153, X_183_155, X_183_157_t, X_183_157_f, X_183_157, X_183_160, X_183_162, X_183_165, X_183_167, X_183_169, X_183_171, X_183_173_t, X_183_173_f, X_183_173, X_183_176, X_183_178, X_183_181, X_183_183, X_183_185, X_183_188, X_183_191, X_183_192, X_183_194, X_183_197, X_183_199, X_183_201, S3_asks, pushR_some, fixp_i, nxB, nxW]
  | succ n ih =>
    intro m b w F T0 l8 hm hw hF
    obtain ⟨F1, hF1, q1⟩ := M_nx1 (d := d) (i := i) (r := r) (s := s) (S := S) (b := b) (w := w) (m := (m : Int)) (N := N) (h := h) (T0 := T0) hd hi (by omega) hN hf 6 0 F (by omega) hF
    rw [mix_0] at q1
    generalize eT : mixR 6 (pkF (h 64) i (m : Int)) T0 = T1 at q1
    have t1 : ∀ k, k < 6 → T1 k = pkF (h 64) i (m : Int) k := fun k hk => by rw [← eT, mix_lt hk]
    have gb := gpC_b (S := S) (tl := pkF (h 64) i (m : Int)) (n := 6)
    have cG : ∀ Q, call d 182 [.inr (.inr (some 63)), .inl S] G1 (hT2 h F1 T1) Q = Q (some (.inl (gpC S (pkF (h 64) i (m : Int)) 6))) G1 (hT2 h F1 T1) := fun Q => by
      rw [S3_gp (by omega) (fun k hk => by rw [hT2_75, t1 k hk]; exact pkF_b hi hk (by omega) hN hf), hT2_75, gpT_congr t1, gp_eq]
    have q0 : ∀ Q, wp d 183 57 [some (.inr (.inr (some 63))), some (.inl (i : Int)), some (.inl r), some (.inl s), some (.inl S), some (.inl b), some (.inl w), some (.inl (m : Int)), l8] [] G1 (hT2 h F T0) Q = wp d 183 66 [some (.inr (.inr (some 63))), some (.inl (i : Int)), some (.inl r), some (.inl s), some (.inl S), some (.inl b), some (.inl w), some (.inl (m : Int)), some (.inl ((0 : Nat) : Int))] [] G1 (hT2 h F T0) Q := fun Q => by
      conv => lhs; rw [X_183_57]
      conv => lhs; simp (disch := omega) only [X_183_0, X_183_1, X_183_2, X_183_5_t, X_183_5_f, X_183_5, X_183_8, X_183_9, X_183_12_t, X_183_12_f, X_183_12, X_183_15, X_183_16, X_183_17, X_183_18, X_183_19, X_183_22, X_183_23, X_183_24, X_183_25_t, X_183_25_f, X_183_25, X_183_28, X_183_29, X_183_30, X_183_31, X_183_32, X_183_33, X_183_36, X_183_38, X_183_40_t, X_183_40_f, X_183_40, X_183_43, X_183_45, X_183_46, X_183_48, X_183_50, X_183_52, X_183_54, X_183_55, X_183_59, X_183_60_t, X_183_60_f, X_183_60, X_183_63, X_183_64, X_183_68, X_183_70_t, X_183_70_f, X_183_70, X_183_73, X_183_74, X_183_77, X_183_78, X_183_81, X_183_82, X_183_83, X_183_84, X_183_86, X_183_87, X_183_88, X_183_91, X_183_93, X_183_95, X_183_96, X_183_97, X_183_100, X_183_102, X_183_105_t, X_183_105_f, X_183_105, X_183_108, X_183_109, X_183_112, X_183_114, X_183_117, X_183_118, X_183_121, X_183_123, X_183_124, X_183_127, X_183_128, X_183_131, X_183_132, X_183_135, X_183_138, X_183_139, X_183_142, X_183_145, X_183_146, X_183_148, X_183_151, X_183_153, X_183_155, X_183_157_t, X_183_157_f, X_183_157, X_183_160, X_183_162, X_183_165, X_183_167, X_183_169, X_183_171, X_183_173_t, X_183_173_f, X_183_173, X_183_176, X_183_178, X_183_181, X_183_183, X_183_185, X_183_188, X_183_191, X_183_192, X_183_194, X_183_197, X_183_199, X_183_201, fixp_i]
      rfl
    by_cases z : gpC S (pkF (h 64) i (m : Int)) 6 < w
    · obtain ⟨F', T', hF', c2⟩ := ih (m + 1) (m : Int) (gpC S (pkF (h 64) i (m : Int)) 6) F1 T1 (some (.inl (gpC S (pkF (h 64) i (m : Int)) 6))) (by omega) (by omega) hF1
      have e1 : nxB (fun m => gpC S (pkF (h 64) i (m : Int)) 6) (n + 1) m b w = nxB (fun m => gpC S (pkF (h 64) i (m : Int)) 6) n (m + 1) (m : Int) (gpC S (pkF (h 64) i (m : Int)) 6) := by conv => lhs; unfold nxB; rw [if_pos z]
      have e2 : nxW (fun m => gpC S (pkF (h 64) i (m : Int)) 6) (n + 1) m b w = nxW (fun m => gpC S (pkF (h 64) i (m : Int)) 6) n (m + 1) (m : Int) (gpC S (pkF (h 64) i (m : Int)) 6) := by conv => lhs; unfold nxW; rw [if_pos z]
      rw [e1, e2]
      refine ⟨F', T', hF', fun Q => ?_⟩
      rw [q0, q1]
      refine Eq.trans ?_ (c2 Q)
      conv => lhs; simp (disch := omega) only [X_183_0, X_183_1, X_183_2, X_183_5_t, X_183_5_f, X_183_5, X_183_8, X_183_9, X_183_12_t, X_183_12_f, X_183_12, X_183_15, X_183_16, X_183_17, X_183_18, X_183_19, X_183_22, X_183_23, X_183_24, X_183_25_t, X_183_25_f, X_183_25, X_183_28, X_183_29, X_183_30, X_183_31, X_183_32, X_183_33, X_183_36, X_183_38, X_183_40_t, X_183_40_f, X_183_40, X_183_43, X_183_45, X_183_46, X_183_48, X_183_50, X_183_52, X_183_54, X_183_55, X_183_59, X_183_60_t, X_183_60_f, X_183_60, X_183_63, X_183_64, X_183_68, X_183_70_t, X_183_70_f, X_183_70, X_183_73, X_183_74, X_183_77, X_183_78, X_183_81, X_183_82, X_183_83, X_183_84, X_183_86, X_183_87, X_183_88, X_183_91, X_183_93, X_183_95, X_183_96, X_183_97, X_183_100, X_183_102, X_183_105_t, X_183_105_f, X_183_105, X_183_108, X_183_109, X_183_112, X_183_114, X_183_117, X_183_118, X_183_121, X_183_123, X_183_124, X_183_127, X_183_128, X_183_131, X_183_132, X_183_135, X_183_138, X_183_139, X_183_142, X_183_145, X_183_146, X_183_148, X_183_151, X_183_153, X_183_155, X_183_157_t, X_183_157_f, X_183_157, X_183_160, X_183_162, X_183_165, X_183_167, X_183_169, X_183_171, X_183_173_t, X_183_173_f, X_183_173, X_183_176, X_183_178, X_183_181, X_183_183, X_183_185, X_183_188, X_183_191, X_183_192, X_183_194, X_183_197, X_183_199, X_183_201, cG, pushR_some, fixp_i, natS]
    · obtain ⟨F', T', hF', c2⟩ := ih (m + 1) b w F1 T1 (some (.inl (gpC S (pkF (h 64) i (m : Int)) 6))) (by omega) hw hF1
      have e1 : nxB (fun m => gpC S (pkF (h 64) i (m : Int)) 6) (n + 1) m b w = nxB (fun m => gpC S (pkF (h 64) i (m : Int)) 6) n (m + 1) b w := by conv => lhs; unfold nxB; rw [if_neg z]
      have e2 : nxW (fun m => gpC S (pkF (h 64) i (m : Int)) 6) (n + 1) m b w = nxW (fun m => gpC S (pkF (h 64) i (m : Int)) 6) n (m + 1) b w := by conv => lhs; unfold nxW; rw [if_neg z]
      rw [e1, e2]
      refine ⟨F', T', hF', fun Q => ?_⟩
      rw [q0, q1]
      refine Eq.trans ?_ (c2 Q)
      conv => lhs; simp (disch := omega) only [X_183_0, X_183_1, X_183_2, X_183_5_t, X_183_5_f, X_183_5, X_183_8, X_183_9, X_183_12_t, X_183_12_f, X_183_12, X_183_15, X_183_16, X_183_17, X_183_18, X_183_19, X_183_22, X_183_23, X_183_24, X_183_25_t, X_183_25_f, X_183_25, X_183_28, X_183_29, X_183_30, X_183_31, X_183_32, X_183_33, X_183_36, X_183_38, X_183_40_t, X_183_40_f, X_183_40, X_183_43, X_183_45, X_183_46, X_183_48, X_183_50, X_183_52, X_183_54, X_183_55, X_183_59, X_183_60_t, X_183_60_f, X_183_60, X_183_63, X_183_64, X_183_68, X_183_70_t, X_183_70_f, X_183_70, X_183_73, X_183_74, X_183_77, X_183_78, X_183_81, X_183_82, X_183_83, X_183_84, X_183_86, X_183_87, X_183_88, X_183_91, X_183_93, X_183_95, X_183_96, X_183_97, X_183_100, X_183_102, X_183_105_t, X_183_105_f, X_183_105, X_183_108, X_183_109, X_183_112, X_183_114, X_183_117, X_183_118, X_183_121, X_183_123, X_183_124, X_183_127, X_183_128, X_183_131, X_183_132, X_183_135, X_183_138, X_183_139, X_183_142, X_183_145, X_183_146, X_183_148, X_183_151, X_183_153, X_183_155, X_183_157_t, X_183_157_f, X_183_157, X_183_160, X_183_162, X_183_165, X_183_167, X_183_169, X_183_171, X_183_173_t, X_183_173_f, X_183_173, X_183_176, X_183_178, X_183_181, X_183_183, X_183_185, X_183_188, X_183_191, X_183_192, X_183_194, X_183_197, X_183_199, X_183_201, cG, pushR_some, fixp_i, natS]

theorem Op_next {x y : Int} (h_x : -2147483648 ≤ x ∧ x < 2147483648) (h_y : -2147483648 ≤ y ∧ y < 2147483648) : OpI 65 183 [.inl x, .inl y] := by
  intro n h H hn
  have g0 := g1_0
  have g1 := g1_1
  have g3 := g1_3
  have g63 := g1_63
  rcases LIV_c H with L | L
  · have cF : ∀ Q, call 29 92 [.inr (.inr (some 0)), .inl x, .inl y] G1 h Q = Q (some (.inl (-1))) G1 h := fun Q => S_pq_n (by omega) L.2.1
    refine OpI_same (r := -1) (by omega) H (fun Q => ?_) (fun Q => ?_)
    · rw [C_65]
      simp (disch := omega) only [X_65_0, X_65_1, X_65_2, X_65_3, X_65_6, X_65_7, X_65_8_t, X_65_8_f, X_65_8, X_65_11, X_65_12, X_65_13, X_65_14, X_65_15, X_65_16, X_65_19, X_65_20, X_65_21, X_65_24, X_65_26, X_65_28_t, X_65_28_f, X_65_28, X_65_31, X_65_33, X_65_34, X_65_35, X_65_37, X_65_39, X_65_41, X_65_42, X_65_46, X_65_47_t, X_65_47_f, X_65_47, X_65_50, X_65_51, X_65_52, X_65_54, X_65_56, X_65_59, X_65_61, X_65_63, X_65_65_t, X_65_65_f, X_65_65, X_65_68, X_65_70, X_65_72, X_65_74, X_65_76, X_65_79, X_65_82, X_65_83, X_65_85, X_65_88, X_65_89, X_65_91, cF, pushR_some, fixp_i]
    · rw [C_183]
      simp (disch := omega) only [X_183_0, X_183_1, X_183_2, X_183_5_t, X_183_5_f, X_183_5, X_183_8, X_183_9, X_183_12_t, X_183_12_f, X_183_12, X_183_15, X_183_16, X_183_17, X_183_18, X_183_19, X_183_22, X_183_23, X_183_24, X_183_25_t, X_183_25_f, X_183_25, X_183_28, X_183_29, X_183_30, X_183_31, X_183_32, X_183_33, X_183_36, X_183_38, X_183_40_t, X_183_40_f, X_183_40, X_183_43, X_183_45, X_183_46, X_183_48, X_183_50, X_183_52, X_183_54, X_183_55, X_183_59, X_183_60_t, X_183_60_f, X_183_60, X_183_63, X_183_64, X_183_68, X_183_70_t, X_183_70_f, X_183_70, X_183_73, X_183_74, X_183_77, X_183_78, X_183_81, X_183_82, X_183_83, X_183_84, X_183_86, X_183_87, X_183_88, X_183_91, X_183_93, X_183_95, X_183_96, X_183_97, X_183_100, X_183_102, X_183_105_t, X_183_105_f, X_183_105, X_183_108, X_183_109, X_183_112, X_183_114, X_183_117, X_183_118, X_183_121, X_183_123, X_183_124, X_183_127, X_183_128, X_183_131, X_183_132, X_183_135, X_183_138, X_183_139, X_183_142, X_183_145, X_183_146, X_183_148, X_183_151, X_183_153, X_183_155, X_183_157_t, X_183_157_f, X_183_157, X_183_160, X_183_162, X_183_165, X_183_167, X_183_169, X_183_171, X_183_173_t, X_183_173_f, X_183_173, X_183_176, X_183_178, X_183_181, X_183_183, X_183_185, X_183_188, X_183_191, X_183_192, X_183_194, X_183_197, X_183_199, X_183_201, S3_isBead_n, pushR_some]
  obtain ⟨L1, L2, L3⟩ := L
  by_cases hx : 0 ≤ x ∧ x < 14
  case neg =>
    have cF : ∀ Q, call 29 92 [.inr (.inr (some 0)), .inl x, .inl y] G1 h Q = Q (some (.inl (-1))) G1 h := fun Q => S_pq_f (by omega) L2 h_x hx
    refine OpI_same (r := -1) (by omega) H (fun Q => ?_) (fun Q => ?_)
    · rw [C_65]
      simp (disch := omega) only [X_65_0, X_65_1, X_65_2, X_65_3, X_65_6, X_65_7, X_65_8_t, X_65_8_f, X_65_8, X_65_11, X_65_12, X_65_13, X_65_14, X_65_15, X_65_16, X_65_19, X_65_20, X_65_21, X_65_24, X_65_26, X_65_28_t, X_65_28_f, X_65_28, X_65_31, X_65_33, X_65_34, X_65_35, X_65_37, X_65_39, X_65_41, X_65_42, X_65_46, X_65_47_t, X_65_47_f, X_65_47, X_65_50, X_65_51, X_65_52, X_65_54, X_65_56, X_65_59, X_65_61, X_65_63, X_65_65_t, X_65_65_f, X_65_65, X_65_68, X_65_70, X_65_72, X_65_74, X_65_76, X_65_79, X_65_82, X_65_83, X_65_85, X_65_88, X_65_89, X_65_91, cF, pushR_some, fixp_i]
    · rw [C_183]
      simp (disch := omega) only [X_183_0, X_183_1, X_183_2, X_183_5_t, X_183_5_f, X_183_5, X_183_8, X_183_9, X_183_12_t, X_183_12_f, X_183_12, X_183_15, X_183_16, X_183_17, X_183_18, X_183_19, X_183_22, X_183_23, X_183_24, X_183_25_t, X_183_25_f, X_183_25, X_183_28, X_183_29, X_183_30, X_183_31, X_183_32, X_183_33, X_183_36, X_183_38, X_183_40_t, X_183_40_f, X_183_40, X_183_43, X_183_45, X_183_46, X_183_48, X_183_50, X_183_52, X_183_54, X_183_55, X_183_59, X_183_60_t, X_183_60_f, X_183_60, X_183_63, X_183_64, X_183_68, X_183_70_t, X_183_70_f, X_183_70, X_183_73, X_183_74, X_183_77, X_183_78, X_183_81, X_183_82, X_183_83, X_183_84, X_183_86, X_183_87, X_183_88, X_183_91, X_183_93, X_183_95, X_183_96, X_183_97, X_183_100, X_183_102, X_183_105_t, X_183_105_f, X_183_105, X_183_108, X_183_109, X_183_112, X_183_114, X_183_117, X_183_118, X_183_121, X_183_123, X_183_124, X_183_127, X_183_128, X_183_131, X_183_132, X_183_135, X_183_138, X_183_139, X_183_142, X_183_145, X_183_146, X_183_148, X_183_151, X_183_153, X_183_155, X_183_157_t, X_183_157_f, X_183_157, X_183_160, X_183_162, X_183_165, X_183_167, X_183_169, X_183_171, X_183_173_t, X_183_173_f, X_183_173, X_183_176, X_183_178, X_183_181, X_183_183, X_183_185, X_183_188, X_183_191, X_183_192, X_183_194, X_183_197, X_183_199, X_183_201, S3_isBead_f, pushR_some]
  by_cases h1 : 0 ≤ y ∧ y < 6
  case neg =>
    have cF : ∀ Q, call 29 92 [.inr (.inr (some 0)), .inl x, .inl y] G1 h Q = Q (some (.inl (-1))) G1 h := fun Q => S_pq_r (by omega) L2 hx h_y h1
    refine OpI_same (r := -1) (by omega) H (fun Q => ?_) (fun Q => ?_)
    · rw [C_65]
      simp (disch := omega) only [X_65_0, X_65_1, X_65_2, X_65_3, X_65_6, X_65_7, X_65_8_t, X_65_8_f, X_65_8, X_65_11, X_65_12, X_65_13, X_65_14, X_65_15, X_65_16, X_65_19, X_65_20, X_65_21, X_65_24, X_65_26, X_65_28_t, X_65_28_f, X_65_28, X_65_31, X_65_33, X_65_34, X_65_35, X_65_37, X_65_39, X_65_41, X_65_42, X_65_46, X_65_47_t, X_65_47_f, X_65_47, X_65_50, X_65_51, X_65_52, X_65_54, X_65_56, X_65_59, X_65_61, X_65_63, X_65_65_t, X_65_65_f, X_65_65, X_65_68, X_65_70, X_65_72, X_65_74, X_65_76, X_65_79, X_65_82, X_65_83, X_65_85, X_65_88, X_65_89, X_65_91, cF, pushR_some, fixp_i]
    · rw [C_183]
      simp (disch := omega) only [X_183_0, X_183_1, X_183_2, X_183_5_t, X_183_5_f, X_183_5, X_183_8, X_183_9, X_183_12_t, X_183_12_f, X_183_12, X_183_15, X_183_16, X_183_17, X_183_18, X_183_19, X_183_22, X_183_23, X_183_24, X_183_25_t, X_183_25_f, X_183_25, X_183_28, X_183_29, X_183_30, X_183_31, X_183_32, X_183_33, X_183_36, X_183_38, X_183_40_t, X_183_40_f, X_183_40, X_183_43, X_183_45, X_183_46, X_183_48, X_183_50, X_183_52, X_183_54, X_183_55, X_183_59, X_183_60_t, X_183_60_f, X_183_60, X_183_63, X_183_64, X_183_68, X_183_70_t, X_183_70_f, X_183_70, X_183_73, X_183_74, X_183_77, X_183_78, X_183_81, X_183_82, X_183_83, X_183_84, X_183_86, X_183_87, X_183_88, X_183_91, X_183_93, X_183_95, X_183_96, X_183_97, X_183_100, X_183_102, X_183_105_t, X_183_105_f, X_183_105, X_183_108, X_183_109, X_183_112, X_183_114, X_183_117, X_183_118, X_183_121, X_183_123, X_183_124, X_183_127, X_183_128, X_183_131, X_183_132, X_183_135, X_183_138, X_183_139, X_183_142, X_183_145, X_183_146, X_183_148, X_183_151, X_183_153, X_183_155, X_183_157_t, X_183_157_f, X_183_157, X_183_160, X_183_162, X_183_165, X_183_167, X_183_169, X_183_171, X_183_173_t, X_183_173_f, X_183_173, X_183_176, X_183_178, X_183_181, X_183_183, X_183_185, X_183_188, X_183_191, X_183_192, X_183_194, X_183_197, X_183_199, X_183_201, S3_isBead_t, S3_isRow_f, pushR_some]
  obtain ⟨i, rfl⟩ := nat_of hx.1
  obtain ⟨r, rfl⟩ := nat_of h1.1
  have hi : i < 14 := by omega
  have hr : r < 6 := by omega
  have hR := rows_r hr
  have sR := rw_s hR.2
  have R := H.2.2.1 r hr
  have R' := R
  obtain ⟨R1, R2, R3, R4, R5⟩ := R'
  by_cases h2 : h 68 r < 0
  case pos =>
    have cF : ∀ Q, call 29 92 [.inr (.inr (some 0)), .inl (i : Int), .inl (r : Int)] G1 h Q = Q (some (.inl (-3))) G1 (fnd h 1) := fun Q => S_pq_m (by omega) L2 hx hr R h2
    have w68 : fnd h 1 68 r = h 68 r := by rw [fnd_o (by omega) (by omega)]
    have w63 : fnd h 1 63 1 = 1 := by rw [fnd_o (by omega) (by omega)]; exact L1
    refine OpI_find (w := 1) (by omega) H (fun Q => ?_) (fun Q => ?_)
    · rw [C_65]
      simp (disch := omega) only [X_65_0, X_65_1, X_65_2, X_65_3, X_65_6, X_65_7, X_65_8_t, X_65_8_f, X_65_8, X_65_11, X_65_12, X_65_13, X_65_14, X_65_15, X_65_16, X_65_19, X_65_20, X_65_21, X_65_24, X_65_26, X_65_28_t, X_65_28_f, X_65_28, X_65_31, X_65_33, X_65_34, X_65_35, X_65_37, X_65_39, X_65_41, X_65_42, X_65_46, X_65_47_t, X_65_47_f, X_65_47, X_65_50, X_65_51, X_65_52, X_65_54, X_65_56, X_65_59, X_65_61, X_65_63, X_65_65_t, X_65_65_f, X_65_65, X_65_68, X_65_70, X_65_72, X_65_74, X_65_76, X_65_79, X_65_82, X_65_83, X_65_85, X_65_88, X_65_89, X_65_91, cF, pushR_some, fixp_i]
    · rw [C_183]
      simp (disch := omega) only [X_183_0, X_183_1, X_183_2, X_183_5_t, X_183_5_f, X_183_5, X_183_8, X_183_9, X_183_12_t, X_183_12_f, X_183_12, X_183_15, X_183_16, X_183_17, X_183_18, X_183_19, X_183_22, X_183_23, X_183_24, X_183_25_t, X_183_25_f, X_183_25, X_183_28, X_183_29, X_183_30, X_183_31, X_183_32, X_183_33, X_183_36, X_183_38, X_183_40_t, X_183_40_f, X_183_40, X_183_43, X_183_45, X_183_46, X_183_48, X_183_50, X_183_52, X_183_54, X_183_55, X_183_59, X_183_60_t, X_183_60_f, X_183_60, X_183_63, X_183_64, X_183_68, X_183_70_t, X_183_70_f, X_183_70, X_183_73, X_183_74, X_183_77, X_183_78, X_183_81, X_183_82, X_183_83, X_183_84, X_183_86, X_183_87, X_183_88, X_183_91, X_183_93, X_183_95, X_183_96, X_183_97, X_183_100, X_183_102, X_183_105_t, X_183_105_f, X_183_105, X_183_108, X_183_109, X_183_112, X_183_114, X_183_117, X_183_118, X_183_121, X_183_123, X_183_124, X_183_127, X_183_128, X_183_131, X_183_132, X_183_135, X_183_138, X_183_139, X_183_142, X_183_145, X_183_146, X_183_148, X_183_151, X_183_153, X_183_155, X_183_157_t, X_183_157_f, X_183_157, X_183_160, X_183_162, X_183_165, X_183_167, X_183_169, X_183_171, X_183_173_t, X_183_173_f, X_183_173, X_183_176, X_183_178, X_183_181, X_183_183, X_183_185, X_183_188, X_183_191, X_183_192, X_183_194, X_183_197, X_183_199, X_183_201, S3_isBead_t, S3_isRow_t, S3_lq_m, pushR_some, fixp_i]
  by_cases h3 : 16 < h 68 r ∨ h 68 r % 2 = 1
  case pos =>
    have cF : ∀ Q, call 29 92 [.inr (.inr (some 0)), .inl (i : Int), .inl (r : Int)] G1 h Q = Q (some (.inl (-3))) G1 (fnd h 5) := fun Q => S_pq_s (by omega) L2 hx hr R (by omega) h3
    have w68 : fnd h 5 68 r = h 68 r := by rw [fnd_o (by omega) (by omega)]
    have w63 : fnd h 5 63 1 = 1 := by rw [fnd_o (by omega) (by omega)]; exact L1
    refine OpI_find (w := 5) (by omega) H (fun Q => ?_) (fun Q => ?_)
    · rw [C_65]
      simp (disch := omega) only [X_65_0, X_65_1, X_65_2, X_65_3, X_65_6, X_65_7, X_65_8_t, X_65_8_f, X_65_8, X_65_11, X_65_12, X_65_13, X_65_14, X_65_15, X_65_16, X_65_19, X_65_20, X_65_21, X_65_24, X_65_26, X_65_28_t, X_65_28_f, X_65_28, X_65_31, X_65_33, X_65_34, X_65_35, X_65_37, X_65_39, X_65_41, X_65_42, X_65_46, X_65_47_t, X_65_47_f, X_65_47, X_65_50, X_65_51, X_65_52, X_65_54, X_65_56, X_65_59, X_65_61, X_65_63, X_65_65_t, X_65_65_f, X_65_65, X_65_68, X_65_70, X_65_72, X_65_74, X_65_76, X_65_79, X_65_82, X_65_83, X_65_85, X_65_88, X_65_89, X_65_91, cF, pushR_some, fixp_i]
    · rw [C_183]
      simp (disch := omega) only [X_183_0, X_183_1, X_183_2, X_183_5_t, X_183_5_f, X_183_5, X_183_8, X_183_9, X_183_12_t, X_183_12_f, X_183_12, X_183_15, X_183_16, X_183_17, X_183_18, X_183_19, X_183_22, X_183_23, X_183_24, X_183_25_t, X_183_25_f, X_183_25, X_183_28, X_183_29, X_183_30, X_183_31, X_183_32, X_183_33, X_183_36, X_183_38, X_183_40_t, X_183_40_f, X_183_40, X_183_43, X_183_45, X_183_46, X_183_48, X_183_50, X_183_52, X_183_54, X_183_55, X_183_59, X_183_60_t, X_183_60_f, X_183_60, X_183_63, X_183_64, X_183_68, X_183_70_t, X_183_70_f, X_183_70, X_183_73, X_183_74, X_183_77, X_183_78, X_183_81, X_183_82, X_183_83, X_183_84, X_183_86, X_183_87, X_183_88, X_183_91, X_183_93, X_183_95, X_183_96, X_183_97, X_183_100, X_183_102, X_183_105_t, X_183_105_f, X_183_105, X_183_108, X_183_109, X_183_112, X_183_114, X_183_117, X_183_118, X_183_121, X_183_123, X_183_124, X_183_127, X_183_128, X_183_131, X_183_132, X_183_135, X_183_138, X_183_139, X_183_142, X_183_145, X_183_146, X_183_148, X_183_151, X_183_153, X_183_155, X_183_157_t, X_183_157_f, X_183_157, X_183_160, X_183_162, X_183_165, X_183_167, X_183_169, X_183_171, X_183_173_t, X_183_173_f, X_183_173, X_183_176, X_183_178, X_183_181, X_183_183, X_183_185, X_183_188, X_183_191, X_183_192, X_183_194, X_183_197, X_183_199, X_183_201, S3_isBead_t, S3_isRow_t, S3_lq_s, pushR_some, fixp_i]
  have cF : ∀ Q, call 29 92 [.inr (.inr (some 0)), .inl (i : Int), .inl (r : Int)] G1 h Q = _ := fun Q => S_pq_a (by omega) L2 hx hr R (by omega) (by omega)
  have cL : ∀ (h' : AH) Q, h' 67 = h 67 → h' 68 = h 68 → call 29 177 [.inr (.inr (some 63)), .inl (r : Int)] G1 h' Q = if prOk h r = true then Q (some (.inl 1)) G1 h' else Q (some (.inl (-3))) G1 (fn3 h' 3) := fun h' Q e1 e2 => by
    have e3 : prOk h' r = prOk h r := by unfold prOk; rw [e1, e2]
    rw [S3_lq_a (by omega) hr (by rw [e2]; omega) (by rw [e2]; omega) (fun k hk => by rw [e1]; rw [e2] at hk; exact (R5 k hk).2), e3]
  by_cases hm : prOk h r = true
  case neg =>
    have cL2 := fun Q => cL (fnd h 3) Q (fnd_o (by omega) (by omega)) (fnd_o (by omega) (by omega))
    have w63 : fnd h 3 63 1 = 1 := by rw [fnd_o (by omega) (by omega)]; exact L1
    refine OpI_find (w := 3) (by omega) H (fun Q => ?_) (fun Q => ?_)
    · rw [C_65]
      simp (disch := omega) only [X_65_0, X_65_1, X_65_2, X_65_3, X_65_6, X_65_7, X_65_8_t, X_65_8_f, X_65_8, X_65_11, X_65_12, X_65_13, X_65_14, X_65_15, X_65_16, X_65_19, X_65_20, X_65_21, X_65_24, X_65_26, X_65_28_t, X_65_28_f, X_65_28, X_65_31, X_65_33, X_65_34, X_65_35, X_65_37, X_65_39, X_65_41, X_65_42, X_65_46, X_65_47_t, X_65_47_f, X_65_47, X_65_50, X_65_51, X_65_52, X_65_54, X_65_56, X_65_59, X_65_61, X_65_63, X_65_65_t, X_65_65_f, X_65_65, X_65_68, X_65_70, X_65_72, X_65_74, X_65_76, X_65_79, X_65_82, X_65_83, X_65_85, X_65_88, X_65_89, X_65_91, cF, if_neg hm, pushR_some, fixp_i]
    · rw [C_183]
      simp (disch := omega) only [X_183_0, X_183_1, X_183_2, X_183_5_t, X_183_5_f, X_183_5, X_183_8, X_183_9, X_183_12_t, X_183_12_f, X_183_12, X_183_15, X_183_16, X_183_17, X_183_18, X_183_19, X_183_22, X_183_23, X_183_24, X_183_25_t, X_183_25_f, X_183_25, X_183_28, X_183_29, X_183_30, X_183_31, X_183_32, X_183_33, X_183_36, X_183_38, X_183_40_t, X_183_40_f, X_183_40, X_183_43, X_183_45, X_183_46, X_183_48, X_183_50, X_183_52, X_183_54, X_183_55, X_183_59, X_183_60_t, X_183_60_f, X_183_60, X_183_63, X_183_64, X_183_68, X_183_70_t, X_183_70_f, X_183_70, X_183_73, X_183_74, X_183_77, X_183_78, X_183_81, X_183_82, X_183_83, X_183_84, X_183_86, X_183_87, X_183_88, X_183_91, X_183_93, X_183_95, X_183_96, X_183_97, X_183_100, X_183_102, X_183_105_t, X_183_105_f, X_183_105, X_183_108, X_183_109, X_183_112, X_183_114, X_183_117, X_183_118, X_183_121, X_183_123, X_183_124, X_183_127, X_183_128, X_183_131, X_183_132, X_183_135, X_183_138, X_183_139, X_183_142, X_183_145, X_183_146, X_183_148, X_183_151, X_183_153, X_183_155, X_183_157_t, X_183_157_f, X_183_157, X_183_160, X_183_162, X_183_165, X_183_167, X_183_169, X_183_171, X_183_173_t, X_183_173_f, X_183_173, X_183_176, X_183_178, X_183_181, X_183_183, X_183_185, X_183_188, X_183_191, X_183_192, X_183_194, X_183_197, X_183_199, X_183_201, S3_isBead_t, S3_isRow_t, cL2, if_neg hm, pushR_some, fixp_i]
  obtain ⟨M, hMM⟩ : ∃ M : Nat, h 68 r = ((2 * M : Nat) : Int) := ⟨(h 68 r).toNat / 2, by omega⟩
  have hM : M ≤ 8 := by omega
  have mk := prOk_iff hMM hm
  have hf := FUL_ty L3
  have hz := H.2.2.2.2.1.2.2.2
  obtain ⟨hb, cR, FR⟩ := S_ktf (d := 29) (r := r) (M := M) (i := i) (g := fun k => h 67 (40 * r + k)) (f := h 64) (N := 40) (h := h) (by omega) hr hM hi mk (by omega) hf (by omega) (fun k hk => (R5 k (by omega)).1) H.1 L3.1 L2
  have bb := bts_b (P := fun k => sdF (fun k => h 67 (40 * r + k)) i M 0 (putR (h 64) i (k : Int))) (n := 6) (i := 0) (a := 0) (by omega)
  have kb : ∀ hd : AH, hd 67 = h 67 → hd 68 = h 68 → hd 64 = h 64 → (∀ s, 98 ≤ s → hd 74 s = 0) → ∃ F : TF, (∀ Q, call 29 179 [.inr (.inr (some 63)), .inl (i : Int), .inl (r : Int)] G1 hd Q = Q (some (.inl (bts (fun k => sdF (fun k => h 67 (40 * r + k)) i M 0 (putR (h 64) i (k : Int))) 6 0 0))) G1 (setR hd 74 F)) ∧ ∀ s, 98 ≤ s → F s = h 64 s := by
    intro hd d67 d68 d64 d74
    obtain ⟨F, q1, qF⟩ := S3_kb (d := 29) (r := r) (M := M) (i := i) (N := 40) (h := hd) (F := hd 74) (by omega) hr hM hi (by rw [d68]; exact hMM) (by rw [d67]; exact mk) (by omega) (by rw [d64]; exact hf) (fun s hs => by rw [d74 s hs, d64, hz s hs])
    rw [d67, d64, setR_e] at q1
    rw [d64] at qF
    exact ⟨F, q1, qF⟩
  generalize bts (fun k => sdF (fun k => h 67 (40 * r + k)) i M 0 (putR (h 64) i (k : Int))) 6 0 0 = S at cR bb kb
  by_cases hS : S = 0
  · obtain ⟨F, q1, qF⟩ := kb hb (FR _ (by omega)) (FR _ (by omega)) (FR _ (by omega)) (fun s hs => by rw [FR 74 (by omega)]; exact H.2.1 s hs)
    have cL2 := fun Q => cL hb Q (FR _ (by omega)) (FR _ (by omega))
    have d63 : hb 63 1 = 1 := by rw [FR 63 (by omega), L1]
    refine ⟨-9, hb, setR hb 74 F, by omega, fun Q => ?_, fun Q => ?_, INV_same (INV_scr H (fun a a1 => ?_) (fun s hs => ?_))⟩
    · rw [C_65]
      simp (disch := omega) only [X_65_0, X_65_1, X_65_2, X_65_3, X_65_6, X_65_7, X_65_8_t, X_65_8_f, X_65_8, X_65_11, X_65_12, X_65_13, X_65_14, X_65_15, X_65_16, X_65_19, X_65_20, X_65_21, X_65_24, X_65_26, X_65_28_t, X_65_28_f, X_65_28, X_65_31, X_65_33, X_65_34, X_65_35, X_65_37, X_65_39, X_65_41, X_65_42, X_65_46, X_65_47_t, X_65_47_f, X_65_47, X_65_50, X_65_51, X_65_52, X_65_54, X_65_56, X_65_59, X_65_61, X_65_63, X_65_65_t, X_65_65_f, X_65_65, X_65_68, X_65_70, X_65_72, X_65_74, X_65_76, X_65_79, X_65_82, X_65_83, X_65_85, X_65_88, X_65_89, X_65_91, r1_0_0, Int.toNat_natCast, hR.1, cF, if_pos hm, cR, pushR_some, pushR_none, fixp_i, fixp_n]
    · rw [C_183]
      simp (disch := omega) only [X_183_0, X_183_1, X_183_2, X_183_5_t, X_183_5_f, X_183_5, X_183_8, X_183_9, X_183_12_t, X_183_12_f, X_183_12, X_183_15, X_183_16, X_183_17, X_183_18, X_183_19, X_183_22, X_183_23, X_183_24, X_183_25_t, X_183_25_f, X_183_25, X_183_28, X_183_29, X_183_30, X_183_31, X_183_32, X_183_33, X_183_36, X_183_38, X_183_40_t, X_183_40_f, X_183_40, X_183_43, X_183_45, X_183_46, X_183_48, X_183_50, X_183_52, X_183_54, X_183_55, X_183_59, X_183_60_t, X_183_60_f, X_183_60, X_183_63, X_183_64, X_183_68, X_183_70_t, X_183_70_f, X_183_70, X_183_73, X_183_74, X_183_77, X_183_78, X_183_81, X_183_82, X_183_83, X_183_84, X_183_86, X_183_87, X_183_88, X_183_91, X_183_93, X_183_95, X_183_96, X_183_97, X_183_100, X_183_102, X_183_105_t, X_183_105_f, X_183_105, X_183_108, X_183_109, X_183_112, X_183_114, X_183_117, X_183_118, X_183_121, X_183_123, X_183_124, X_183_127, X_183_128, X_183_131, X_183_132, X_183_135, X_183_138, X_183_139, X_183_142, X_183_145, X_183_146, X_183_148, X_183_151, X_183_153, X_183_155, X_183_157_t, X_183_157_f, X_183_157, X_183_160, X_183_162, X_183_165, X_183_167, X_183_169, X_183_171, X_183_173_t, X_183_173_f, X_183_173, X_183_176, X_183_178, X_183_181, X_183_183, X_183_185, X_183_188, X_183_191, X_183_192, X_183_194, X_183_197, X_183_199, X_183_201, S3_isBead_t, S3_isRow_t, cL2, if_pos hm, q1, pushR_some, pushR_none, fixp_i, fixp_n]
    · have n74 : ¬ a = 74 := fun z => a1 (by unfold scr; omega)
      have n10 : a < 10 ∨ 17 ≤ a := by have : ¬ (10 ≤ a ∧ a < 17) := fun z => a1 (Or.inl z); omega
      rw [setR_n n74, FR a (by omega)]
    · rw [setR_s, qF s hs]; exact hz s hs
  have T3b : TR hb 3 (h 64) := TR_keep L3.1 (FR _ (by omega)) (FR _ (by omega)) (FR _ (by omega)) (FR _ (by omega)) (FR _ (by omega)) (by rw [FR _ (by omega)])
  obtain ⟨hc, cN, FN⟩ := L_next (d := 29) (i := i) (r := (r : Int)) (s := 0) (S := S) (N := 40) (f := h 64) (by omega) hi (by omega) hf 4 0 0 7 hb none (by omega) (by omega) (by rw [FR _ (by omega)]; exact H.1) T3b (by rw [FR _ (by omega)]; exact L2)
  have gb : ∀ m : Nat, 0 ≤ (fun m : Nat => gpC S (pkF (h 64) i (m : Int)) 6) m ∧ (fun m : Nat => gpC S (pkF (h 64) i (m : Int)) 6) m ≤ 6 := fun m => gpC_b (n := 6)
  have wb := nxW_b gb (n := 4) (m := 0) (b := 0) (w := 7) (by omega)
  have nb := nxB_b (gp := fun m : Nat => gpC S (pkF (h 64) i (m : Int)) 6) (n := 4) (m := 0) (b := 0) (w := 7) (by omega) (by omega)
  have g00 : 0 ≤ gpC S (pkF (h 64) i ((0 : Nat) : Int)) 6 ∧ gpC S (pkF (h 64) i ((0 : Nat) : Int)) 6 ≤ 6 := gb 0
  have eB : nxB (fun m : Nat => gpC S (pkF (h 64) i (m : Int)) 6) 4 0 (-9) 1000000 = nxB (fun m : Nat => gpC S (pkF (h 64) i (m : Int)) 6) 4 0 0 7 := by
    conv => lhs; unfold nxB; rw [if_pos (by omega)]
    conv => rhs; unfold nxB; rw [if_pos (by omega)]
  have eW : nxW (fun m : Nat => gpC S (pkF (h 64) i (m : Int)) 6) 4 0 (-9) 1000000 = nxW (fun m : Nat => gpC S (pkF (h 64) i (m : Int)) 6) 4 0 0 7 := by
    conv => lhs; unfold nxW; rw [if_pos (by omega)]
    conv => rhs; unfold nxW; rw [if_pos (by omega)]
  generalize eV : nxW (fun m : Nat => gpC S (pkF (h 64) i (m : Int)) 6) 4 0 0 7 = v at cN wb eW
  generalize eU : nxB (fun m : Nat => gpC S (pkF (h 64) i (m : Int)) 6) 4 0 0 7 = u at cN nb eB
  generalize eD : put hc 0 10 v = hd at cN
  have fd : ∀ a, ¬ a = 0 → (a < 10 ∨ 16 ≤ a) → ¬ a = 21 → hd a = h a := fun a a0 a1 a2 => by rw [← eD, put_row a0, FN a a1 a2, FR a a1]
  have d67 : hd 67 = h 67 := fd 67 (by omega) (by omega) (by omega)
  have d68 : hd 68 = h 68 := fd 68 (by omega) (by omega) (by omega)
  have d64 : hd 64 = h 64 := fd 64 (by omega) (by omega) (by omega)
  have d63 : hd 63 1 = 1 := by rw [fd 63 (by omega) (by omega) (by omega), L1]
  have d74 : ∀ s, 98 ≤ s → hd 74 s = 0 := fun s hs => by rw [fd 74 (by omega) (by omega) (by omega)]; exact H.2.1 s hs
  have cL2 := fun Q => cL hd Q d67 d68
  obtain ⟨F, q1, qF⟩ := kb hd d67 d68 d64 d74
  obtain ⟨F2, T2, qF2, q2⟩ := M_nx2 (d := 29) (i := i) (r := (r : Int)) (s := 1) (S := S) (N := 40) (h := hd) (by omega) hi (by omega) (by rw [d64]; exact hf) 4 0 (-9) 1000000 F (hd 75) none (by omega) (by omega) (fun s hs => by rw [qF s hs, d64])
  have e75 : hT2 hd F (hd 75) = setR hd 74 F := by
    unfold hT2
    have : hd 75 = setR hd 74 F 75 := by rw [setR_n (by omega)]
    rw [this, setR_e]
  rw [d64, eB, eW, e75] at q2
  refine ⟨u, hd, put (hT2 hd F2 T2) 63 10 v, by omega, fun Q => ?_, fun Q => ?_, INV_scr (INV_ask (v := v) (by omega) H) (fun a a1 => ?_) (fun s hs => ?_)⟩
  · rw [C_65]
    simp (disch := omega) only [X_65_0, X_65_1, X_65_2, X_65_3, X_65_6, X_65_7, X_65_8_t, X_65_8_f, X_65_8, X_65_11, X_65_12, X_65_13, X_65_14, X_65_15, X_65_16, X_65_19, X_65_20, X_65_21, X_65_24, X_65_26, X_65_28_t, X_65_28_f, X_65_28, X_65_31, X_65_33, X_65_34, X_65_35, X_65_37, X_65_39, X_65_41, X_65_42, X_65_46, X_65_47_t, X_65_47_f, X_65_47, X_65_50, X_65_51, X_65_52, X_65_54, X_65_56, X_65_59, X_65_61, X_65_63, X_65_65_t, X_65_65_f, X_65_65, X_65_68, X_65_70, X_65_72, X_65_74, X_65_76, X_65_79, X_65_82, X_65_83, X_65_85, X_65_88, X_65_89, X_65_91, r1_0_0, Int.toNat_natCast, hR.1, cF, if_pos hm, cR, pushR_some, pushR_none, fixp_i, fixp_n]
    exact cN Q
  · rw [C_183]
    simp (disch := omega) only [X_183_0, X_183_1, X_183_2, X_183_5_t, X_183_5_f, X_183_5, X_183_8, X_183_9, X_183_12_t, X_183_12_f, X_183_12, X_183_15, X_183_16, X_183_17, X_183_18, X_183_19, X_183_22, X_183_23, X_183_24, X_183_25_t, X_183_25_f, X_183_25, X_183_28, X_183_29, X_183_30, X_183_31, X_183_32, X_183_33, X_183_36, X_183_38, X_183_40_t, X_183_40_f, X_183_40, X_183_43, X_183_45, X_183_46, X_183_48, X_183_50, X_183_52, X_183_54, X_183_55, X_183_59, X_183_60_t, X_183_60_f, X_183_60, X_183_63, X_183_64, X_183_68, X_183_70_t, X_183_70_f, X_183_70, X_183_73, X_183_74, X_183_77, X_183_78, X_183_81, X_183_82, X_183_83, X_183_84, X_183_86, X_183_87, X_183_88, X_183_91, X_183_93, X_183_95, X_183_96, X_183_97, X_183_100, X_183_102, X_183_105_t, X_183_105_f, X_183_105, X_183_108, X_183_109, X_183_112, X_183_114, X_183_117, X_183_118, X_183_121, X_183_123, X_183_124, X_183_127, X_183_128, X_183_131, X_183_132, X_183_135, X_183_138, X_183_139, X_183_142, X_183_145, X_183_146, X_183_148, X_183_151, X_183_153, X_183_155, X_183_157_t, X_183_157_f, X_183_157, X_183_160, X_183_162, X_183_165, X_183_167, X_183_169, X_183_171, X_183_173_t, X_183_173_f, X_183_173, X_183_176, X_183_178, X_183_181, X_183_183, X_183_185, X_183_188, X_183_191, X_183_192, X_183_194, X_183_197, X_183_199, X_183_201, S3_isBead_t, S3_isRow_t, cL2, if_pos hm, q1, pushR_some, pushR_none, fixp_i, fixp_n]
    exact q2 Q
  · have n74 : ¬ a = 74 := fun z => a1 (by unfold scr; omega)
    have n75 : ¬ a = 75 := fun z => a1 (by unfold scr; omega)
    have n21 : ¬ a = 21 := fun z => a1 (by unfold scr; omega)
    have n10 : a < 10 ∨ 17 ≤ a := by have : ¬ (10 ≤ a ∧ a < 17) := fun z => a1 (Or.inl z); omega
    by_cases e63 : a = 63
    · subst e63
      funext k
      by_cases ek : k = 10
      · subst ek; rw [put_s, put_s]
      · rw [put_nk ek, put_nk ek, hT2_o (by omega) (by omega), fd 63 (by omega) (by omega) (by omega), put_row (by omega)]
    · rw [put_row e63, put_row e63, hT2_o n74 n75, ← eD]
      by_cases e0 : a = 0
      · subst e0
        funext k
        by_cases ek : k = 10
        · subst ek; rw [put_s, put_s]
        · rw [put_nk ek, put_nk ek, FN 0 (by omega) (by omega), FR 0 (by omega)]
      · rw [put_row e0, put_row e0, FN a (by omega) n21, FR a (by omega)]
  · rw [put_row (by omega), hT2_74, qF2 s hs, d64]; exact hz s hs
