/-! 64: which moves -/
theorem bOr_b {a b : Int} : -2147483648 ≤ bOr a b ∧ bOr a b < 2147483648 := by
  unfold bOr
  have h1 := Int32.le_toInt (Int32.ofInt a ||| Int32.ofInt b)
  have h2 := Int32.toInt_lt (Int32.ofInt a ||| Int32.ofInt b)
  omega
theorem bOr_0 {a : Int} (h : -2147483648 ≤ a ∧ a < 2147483648) : bOr a 0 = a := by
  have e1 : bOr a 0 = (BitVec.ofInt 32 a ||| BitVec.ofInt 32 0).toInt := rfl
  have e2 : BitVec.ofInt 32 0 = 0#32 := rfl
  rw [e1, e2, BitVec.or_zero, BitVec.toInt_ofInt]
  unfold Int.bmod
  simp only []
  split <;> omega
/-- bits of those that P names -/
def bts (P : Nat → Bool) : Nat → Nat → Int → Int
  | 0, _, a => a
  | n + 1, i, a => bts P n (i + 1) (if P i = true then bOr a (bShl 1 (i : Int)) else a)
theorem bts_t {P : Nat → Bool} {n i : Nat} {a : Int} (h : P i = true) : bts P (n + 1) i a = bts P n (i + 1) (bOr a (bShl 1 (i : Int))) := by conv => lhs; unfold bts; rw [if_pos h]
theorem bts_f {P : Nat → Bool} {n i : Nat} {a : Int} (h : P i = false) : bts P (n + 1) i a = bts P n (i + 1) a := by conv => lhs; unfold bts; rw [h, if_neg (by decide)]
theorem bts_b {P : Nat → Bool} : ∀ {n i : Nat} {a : Int}, -2147483648 ≤ a ∧ a < 2147483648 → -2147483648 ≤ bts P n i a ∧ bts P n i a < 2147483648
  | 0, _, _, h => h
  | n + 1, i, a, h => by
    unfold bts
    split
    · exact bts_b bOr_b
    · exact bts_b h
theorem bts_congr {P R : Nat → Bool} : ∀ {n i : Nat} {a : Int}, (∀ c, i ≤ c → c < i + n → P c = R c) → bts P n i a = bts R n i a
  | 0, _, _, _ => rfl
  | n + 1, i, a, h => by
    unfold bts
    rw [h i (Nat.le_refl _) (by omega)]
    exact bts_congr (fun c c1 c2 => h c (by omega) (by omega))
theorem picB_congr {f w v : TF} (h : ∀ c, c < 14 → w c = v c) : picB f w = picB f v := allF_congr (fun c c1 c2 => by rw [h c (by omega)])
def whP (f w : TF) (m : Nat) : Bool := if barM f (m : Int) then false else picB (mvF f (m : Int)) w
theorem L_which {d : Nat} {r s N : Int} {f w : TF} (hd : 4 ≤ d) (hf : tyOk f N) (hN : N + 1 ≤ 900000) (hw : ∀ c, c < 14 → -1 ≤ w c ∧ w c ≤ 9) : ∀ (n i : Nat) (a : Int) (h : AH), i + n = 4 → h 1000 = rgT → (∀ c, c < 14 → h 19 c = w c) → TR h 10 f → ∃ h', (∀ Q, wp d 62 65 [some (.inr (.inr (some 0))), some (.inl r), some (.inl s), some (.inl a), some (.inl (i : Int))] [] G1 h Q = Q (some (.inl (bts (whP f w) n i a))) G1 h') ∧ (∀ a, (a < 10 ∨ 16 ≤ a) → h' a = h a) := by
  have g0 := g1_0
  have t10 : isToy 10 := Or.inr (Or.inl rfl)
  have s10 := toy_s t10
  have s19 := g1_19
  intro n
  induction n with
  | zero =>
    intro i a h hi eR e19 hT
    obtain rfl : i = 4 := by omega
    refine ⟨h, fun Q => ?_, fun _ _ => rfl⟩
    simp (disch := omega) only [X_62_65, X_62_0, X_62_1, X_62_4, X_62_7_t, X_62_7_f, X_62_7, X_62_10, X_62_12, X_62_13, X_62_14, X_62_17_t, X_62_17_f, X_62_17, X_62_20, X_62_21, X_62_22, X_62_23, X_62_24, X_62_27, X_62_28, X_62_29, X_62_32, X_62_33, X_62_34_t, X_62_34_f, X_62_34, X_62_37, X_62_38, X_62_39, X_62_40, X_62_41, X_62_44, X_62_45, X_62_46, X_62_49, X_62_50, X_62_53, X_62_54, X_62_57, X_62_60, X_62_61, X_62_62, X_62_63, X_62_67, X_62_68_t, X_62_68_f, X_62_68, X_62_71, X_62_72, X_62_75, X_62_77, X_62_80_t, X_62_80_f, X_62_80, X_62_83, X_62_84, X_62_87, X_62_89, X_62_92, X_62_93, X_62_96, X_62_97, X_62_100, X_62_103_t, X_62_103_f, X_62_103, X_62_106, X_62_107, X_62_108, X_62_110, X_62_111, X_62_112, X_62_113, X_62_114, X_62_117, X_62_119, X_62_122, X_62_125, X_62_128, X_62_129, bts]
  | succ n ih =>
    intro i a h hi eR e19 hT
    have gi : 0 ≤ (i : Int) ∧ (i : Int) < 4 := by omega
    have cb : ∀ Q, call d 24 [.inr (.inr (some 10)), .inl (i : Int)] G1 h Q = if barM f (i : Int) then Q (some (.inl 1)) G1 h else Q (some (.inl 0)) G1 h := fun Q => S_bars hd t10 gi hT hf.1 hf.2.2.1
    by_cases hb : barM f (i : Int)
    · obtain ⟨h', c2, F2⟩ := ih (i + 1) a h (by omega) eR e19 hT
      refine ⟨h', fun Q => ?_, F2⟩
      rw [bts_f (by unfold whP; rw [if_pos hb])]
      refine Eq.trans ?_ (c2 Q)
      conv => lhs; rw [X_62_65]
      conv => lhs; simp (disch := omega) only [X_62_0, X_62_1, X_62_4, X_62_7_t, X_62_7_f, X_62_7, X_62_10, X_62_12, X_62_13, X_62_14, X_62_17_t, X_62_17_f, X_62_17, X_62_20, X_62_21, X_62_22, X_62_23, X_62_24, X_62_27, X_62_28, X_62_29, X_62_32, X_62_33, X_62_34_t, X_62_34_f, X_62_34, X_62_37, X_62_38, X_62_39, X_62_40, X_62_41, X_62_44, X_62_45, X_62_46, X_62_49, X_62_50, X_62_53, X_62_54, X_62_57, X_62_60, X_62_61, X_62_62, X_62_63, X_62_67, X_62_68_t, X_62_68_f, X_62_68, X_62_71, X_62_72, X_62_75, X_62_77, X_62_80_t, X_62_80_f, X_62_80, X_62_83, X_62_84, X_62_87, X_62_89, X_62_92, X_62_93, X_62_96, X_62_97, X_62_100, X_62_103_t, X_62_103_f, X_62_103, X_62_106, X_62_107, X_62_108, X_62_110, X_62_111, X_62_112, X_62_113, X_62_114, X_62_117, X_62_119, X_62_122, X_62_125, X_62_128, X_62_129, r1_0_3, cb, if_pos hb, pushR_some, fixp_i, natS]
    · obtain ⟨h1, c1, T1, F1⟩ := S_makeMove (d := d) (t := 10) (m := (i : Int)) (h := h) (f := f) (by omega) t10 eR gi hT hf.1
      have fo : ∀ a, (a < 10 ∨ 16 ≤ a) → h1 a = h a := fun a ha => F1.1 a (by omega)
      obtain ⟨h2, c2, T2, F2⟩ := S_takeBack (d := d) (t := 10) (m := (i : Int)) (h := h1) (g := f) (by omega) t10 (by rw [fo _ (by omega), eR]) gi T1 hf.1
      have fo2 : ∀ a, (a < 10 ∨ 16 ≤ a) → h2 a = h a := fun a ha => by rw [F2.1 a (by omega), fo a ha]
      have e19b : ∀ c, c < 14 → h1 19 c = w c := fun c hc => by rw [fo _ (by omega), e19 c hc]
      have cs : ∀ Q, call d 20 [.inr (.inr (some 10)), .inr (.inr (some 19))] G1 h1 Q = if picB (mvF f (i : Int)) w = true then Q (some (.inl 1)) G1 h1 else Q (some (.inl 0)) G1 h1 := fun Q => by
        rw [S_showsAs (N := N + 1) hd t10 T1 (mvF_ty gi hf) hN (fun c hc => by rw [e19b c hc]; exact hw c hc), picB_congr e19b]
      have eP : whP f w i = picB (mvF f (i : Int)) w := by unfold whP; rw [if_neg hb]
      by_cases hp : picB (mvF f (i : Int)) w = true
      · obtain ⟨h', c3, F3⟩ := ih (i + 1) (bOr a (bShl 1 (i : Int))) h2 (by omega) (by rw [fo2 _ (by omega), eR]) (fun c hc => by rw [fo2 _ (by omega), e19 c hc]) T2
        refine ⟨h', fun Q => ?_, fun a ha => by rw [F3 a ha, fo2 a ha]⟩
        rw [bts_t (by rw [eP]; exact hp)]
        refine Eq.trans ?_ (c3 Q)
        conv => lhs; rw [X_62_65]
        conv => lhs; simp (disch := omega) only [X_62_0, X_62_1, X_62_4, X_62_7_t, X_62_7_f, X_62_7, X_62_10, X_62_12, X_62_13, X_62_14, X_62_17_t, X_62_17_f, X_62_17, X_62_20, X_62_21, X_62_22, X_62_23, X_62_24, X_62_27, X_62_28, X_62_29, X_62_32, X_62_33, X_62_34_t, X_62_34_f, X_62_34, X_62_37, X_62_38, X_62_39, X_62_40, X_62_41, X_62_44, X_62_45, X_62_46, X_62_49, X_62_50, X_62_53, X_62_54, X_62_57, X_62_60, X_62_61, X_62_62, X_62_63, X_62_67, X_62_68_t, X_62_68_f, X_62_68, X_62_71, X_62_72, X_62_75, X_62_77, X_62_80_t, X_62_80_f, X_62_80, X_62_83, X_62_84, X_62_87, X_62_89, X_62_92, X_62_93, X_62_96, X_62_97, X_62_100, X_62_103_t, X_62_103_f, X_62_103, X_62_106, X_62_107, X_62_108, X_62_110, X_62_111, X_62_112, X_62_113, X_62_114, X_62_117, X_62_119, X_62_122, X_62_125, X_62_128, X_62_129, r1_0_3, r1_0_6, cb, if_neg hb, c1, cs, if_pos hp, c2, pushR_some, pushR_none, fixp_i, natS]
      · obtain ⟨h', c3, F3⟩ := ih (i + 1) a h2 (by omega) (by rw [fo2 _ (by omega), eR]) (fun c hc => by rw [fo2 _ (by omega), e19 c hc]) T2
        refine ⟨h', fun Q => ?_, fun a ha => by rw [F3 a ha, fo2 a ha]⟩
        rw [bts_f (by rw [eP]; exact Bool.eq_false_iff.mpr hp)]
        refine Eq.trans ?_ (c3 Q)
        conv => lhs; rw [X_62_65]
        conv => lhs; simp (disch := omega) only [X_62_0, X_62_1, X_62_4, X_62_7_t, X_62_7_f, X_62_7, X_62_10, X_62_12, X_62_13, X_62_14, X_62_17_t, X_62_17_f, X_62_17, X_62_20, X_62_21, X_62_22, X_62_23, X_62_24, X_62_27, X_62_28, X_62_29, X_62_32, X_62_33, X_62_34_t, X_62_34_f, X_62_34, X_62_37, X_62_38, X_62_39, X_62_40, X_62_41, X_62_44, X_62_45, X_62_46, X_62_49, X_62_50, X_62_53, X_62_54, X_62_57, X_62_60, X_62_61, X_62_62, X_62_63, X_62_67, X_62_68_t, X_62_68_f, X_62_68, X_62_71, X_62_72, X_62_75, X_62_77, X_62_80_t, X_62_80_f, X_62_80, X_62_83, X_62_84, X_62_87, X_62_89, X_62_92, X_62_93, X_62_96, X_62_97, X_62_100, X_62_103_t, X_62_103_f, X_62_103, X_62_106, X_62_107, X_62_108, X_62_110, X_62_111, X_62_112, X_62_113, X_62_114, X_62_117, X_62_119, X_62_122, X_62_125, X_62_128, X_62_129, r1_0_3, r1_0_6, cb, if_neg hb, c1, cs, if_neg hp, c2, pushR_some, pushR_none, fixp_i, natS]
theorem S3_goesR {d n code : Nat} {N : Int} {h : AH} {F : TF} {Q : Option AV → AG → AH → Prop} (hd : 4 ≤ d) (hn : n ≤ 5) (hc : code < 1024) (hz : ∀ s, 98 ≤ s → F s = h 64 s) (hf : tyOk (h 64) N) : call d 170 [.inr (.inr (some 63)), .inl (n : Int), .inl (code : Int)] G1 (setR h 74 F) Q = if gb code n (h 64) = true then Q (some (.inl 1)) G1 (setR h 74 (gt code n (h 64))) else Q (some (.inl 0)) G1 (setR h 74 (gt code n (h 64))) := by
  have e : setR h 74 F 64 = h 64 := setR_n (by omega)
  have q := S3_goesBy (Q := Q) (h := setR h 74 F) (N := N) hd hn hc (fun s hs => by rw [setR_s, e]; exact hz s hs) (by rw [e]; exact hf)
  rw [e, setR_2] at q
  exact q
theorem S3_isPicR {d r : Nat} {N : Int} {h : AH} {F : TF} {Q : Option AV → AG → AH → Prop} (hd : 4 ≤ d) (hr : r < 6) (hf : tyOk F N) (hN : N ≤ 900000) (hw : ∀ c, c < 14 → -1 ≤ h 67 (40 * r + c) ∧ h 67 (40 * r + c) ≤ 9) : call d 174 [.inr (.inr (some 63)), .inl (r : Int)] G1 (setR h 74 F) Q = if picB F (fun c => h 67 (40 * r + c)) = true then Q (some (.inl 1)) G1 (setR h 74 F) else Q (some (.inl 0)) G1 (setR h 74 F) := by
  have e : setR h 74 F 67 = h 67 := setR_n (by omega)
  have q := S3_isPicture (Q := Q) (h := setR h 74 F) (N := N) hd hr (by rw [setR_s]; exact hf) hN (by rw [e]; exact hw)
  rw [e, setR_s] at q
  exact q
theorem dg_0 {m : Nat} (h : m < 4) : dg m 0 = (m : Int) := by unfold dg; simp; omega
theorem M_which {d r : Nat} {s N : Int} {h : AH} (hd : 4 ≤ d) (hr : r < 6) (hf : tyOk (h 64) N) (hN : N + 1 ≤ 900000) (hw : ∀ c, c < 14 → -1 ≤ h 67 (40 * r + c) ∧ h 67 (40 * r + c) ≤ 9) : ∀ (n i : Nat) (a : Int) (F : TF), i + n = 4 → (-2147483648 ≤ a ∧ a < 2147483648) → (∀ s, 98 ≤ s → F s = h 64 s) → ∃ F' : TF, (∀ Q, wp d 176 37 [some (.inr (.inr (some 63))), some (.inl (r : Int)), some (.inl s), some (.inl a), some (.inl (i : Int))] [] G1 (setR h 74 F) Q = Q (some (.inl (bts (whP (h 64) (fun c => h 67 (40 * r + c))) n i a))) G1 (setR h 74 F')) ∧ ∀ s, 98 ≤ s → F' s = h 64 s := by
  have g0 := g1_63
  intro n
  induction n with
  | zero =>
    intro i a F hi ha hF
    obtain rfl : i = 4 := by omega
    refine ⟨F, fun Q => ?_, hF⟩
    simp (disch := omega) only [X_176_37, X_176_0, X_176_1, X_176_4_t, X_176_4_f, X_176_4, X_176_7, X_176_9, X_176_10, X_176_11, X_176_14_t, X_176_14_f, X_176_14, X_176_17, X_176_18, X_176_19, X_176_20, X_176_21, X_176_24, X_176_25, X_176_26, X_176_27_t, X_176_27_f, X_176_27, X_176_30, X_176_31, X_176_32, X_176_33, X_176_34, X_176_35, X_176_39, X_176_40_t, X_176_40_f, X_176_40, X_176_43, X_176_44, X_176_45, X_176_46, X_176_48, X_176_51_t, X_176_51_f, X_176_51, X_176_54, X_176_55, X_176_56, X_176_59_t, X_176_59_f, X_176_59, X_176_62, X_176_63, X_176_65, X_176_66, X_176_69, X_176_70, X_176_71, X_176_72, X_176_75, X_176_78, X_176_79, bts]
  | succ n ih =>
    intro i a F hi ha hF
    have cG : ∀ Q, call d 170 [.inr (.inr (some 63)), .inl 1, .inl (i : Int)] G1 (setR h 74 F) Q = _ := fun Q => S3_goesR (d := d) (n := 1) (code := i) (h := h) (F := F) (N := N) (Q := Q) hd (by omega) (by omega) hF hf
    have z0 := gt_ty (code := i) (k := 1) hf
    have hi2 := fun (s : Nat) (hs : 98 ≤ s) => gt_hi (code := i) hs (k := 1) hf.1
    have eb : gb i 1 (h 64) = !decide (barM (h 64) (i : Int)) := by
      simp only [gb, dg_0 (show i < 4 by omega)]
      by_cases hb : barM (h 64) (i : Int)
      · rw [if_pos hb, decide_eq_true hb]; rfl
      · rw [if_neg hb, decide_eq_false hb]; rfl
    by_cases hb : barM (h 64) (i : Int)
    · rw [decide_eq_true hb] at eb
      obtain ⟨F', c2, F2⟩ := ih (i + 1) a (gt i 1 (h 64)) (by omega) ha (fun s hs => hi2 s hs)
      refine ⟨F', fun Q => ?_, F2⟩
      rw [bts_f (by unfold whP; rw [if_pos hb])]
      refine Eq.trans ?_ (c2 Q)
      have eg : ¬ gb i 1 (h 64) = true := by rw [eb]; decide
      conv => lhs; rw [X_176_37]
      conv => lhs; simp (disch := omega) only [X_176_0, X_176_1, X_176_4_t, X_176_4_f, X_176_4, X_176_7, X_176_9, X_176_10, X_176_11, X_176_14_t, X_176_14_f, X_176_14, X_176_17, X_176_18, X_176_19, X_176_20, X_176_21, X_176_24, X_176_25, X_176_26, X_176_27_t, X_176_27_f, X_176_27, X_176_30, X_176_31, X_176_32, X_176_33, X_176_34, X_176_35, X_176_39, X_176_40_t, X_176_40_f, X_176_40, X_176_43, X_176_44, X_176_45, X_176_46, X_176_48, X_176_51_t, X_176_51_f, X_176_51, X_176_54, X_176_55, X_176_56, X_176_59_t, X_176_59_f, X_176_59, X_176_62, X_176_63, X_176_65, X_176_66, X_176_69, X_176_70, X_176_71, X_176_72, X_176_75, X_176_78, X_176_79, cG, if_neg eg, bOr_0, pushR_some, fixp_i, natS]
    · rw [decide_eq_false hb] at eb
      have eg : gb i 1 (h 64) = true := by rw [eb]; rfl
      have et : gt i 1 (h 64) = mvF (h 64) (i : Int) := by simp only [gt, dg_0 (show i < 4 by omega), if_neg hb]
      rw [et] at cG z0 hi2
      have cP := fun Q => S3_isPicR (d := d) (r := r) (h := h) (F := mvF (h 64) (i : Int)) (N := N + 1) (Q := Q) hd hr z0 hN hw
      have eP : whP (h 64) (fun c => h 67 (40 * r + c)) i = picB (mvF (h 64) (i : Int)) (fun c => h 67 (40 * r + c)) := by unfold whP; rw [if_neg hb]
      by_cases hp : picB (mvF (h 64) (i : Int)) (fun c => h 67 (40 * r + c)) = true
      · obtain ⟨F', c2, F2⟩ := ih (i + 1) (bOr a (bShl 1 (i : Int))) (mvF (h 64) (i : Int)) (by omega) bOr_b (fun s hs => hi2 s hs)
        refine ⟨F', fun Q => ?_, F2⟩
        rw [bts_t (by rw [eP]; exact hp)]
        refine Eq.trans ?_ (c2 Q)
        conv => lhs; rw [X_176_37]
        conv => lhs; simp (disch := omega) only [X_176_0, X_176_1, X_176_4_t, X_176_4_f, X_176_4, X_176_7, X_176_9, X_176_10, X_176_11, X_176_14_t, X_176_14_f, X_176_14, X_176_17, X_176_18, X_176_19, X_176_20, X_176_21, X_176_24, X_176_25, X_176_26, X_176_27_t, X_176_27_f, X_176_27, X_176_30, X_176_31, X_176_32, X_176_33, X_176_34, X_176_35, X_176_39, X_176_40_t, X_176_40_f, X_176_40, X_176_43, X_176_44, X_176_45, X_176_46, X_176_48, X_176_51_t, X_176_51_f, X_176_51, X_176_54, X_176_55, X_176_56, X_176_59_t, X_176_59_f, X_176_59, X_176_62, X_176_63, X_176_65, X_176_66, X_176_69, X_176_70, X_176_71, X_176_72, X_176_75, X_176_78, X_176_79, cG, if_pos eg, cP, if_pos hp, pushR_some, fixp_i, natS]
      · obtain ⟨F', c2, F2⟩ := ih (i + 1) a (mvF (h 64) (i : Int)) (by omega) ha (fun s hs => hi2 s hs)
        refine ⟨F', fun Q => ?_, F2⟩
        rw [bts_f (by rw [eP]; exact Bool.eq_false_iff.mpr hp)]
        refine Eq.trans ?_ (c2 Q)
        conv => lhs; rw [X_176_37]
        conv => lhs; simp (disch := omega) only [X_176_0, X_176_1, X_176_4_t, X_176_4_f, X_176_4, X_176_7, X_176_9, X_176_10, X_176_11, X_176_14_t, X_176_14_f, X_176_14, X_176_17, X_176_18, X_176_19, X_176_20, X_176_21, X_176_24, X_176_25, X_176_26, X_176_27_t, X_176_27_f, X_176_27, X_176_30, X_176_31, X_176_32, X_176_33, X_176_34, X_176_35, X_176_39, X_176_40_t, X_176_40_f, X_176_40, X_176_43, X_176_44, X_176_45, X_176_46, X_176_48, X_176_51_t, X_176_51_f, X_176_51, X_176_54, X_176_55, X_176_56, X_176_59_t, X_176_59_f, X_176_59, X_176_62, X_176_63, X_176_65, X_176_66, X_176_69, X_176_70, X_176_71, X_176_72, X_176_75, X_176_78, X_176_79, cG, if_pos eg, cP, if_neg hp, bOr_0, pushR_some, fixp_i, natS]
theorem Op_which {x : Int} (h_x : -2147483648 ≤ x ∧ x < 2147483648) : OpI 62 176 [.inl x] := by
  intro n h H hn
  have g0 := g1_0
  have g1 := g1_1
  have g3 := g1_3
  have g63 := g1_63
  have t3 : isToy 3 := Or.inl rfl
  have t10 : isToy 10 := Or.inr (Or.inl rfl)
  have s10 := toy_s t10
  rcases LIV_c H with L | L
  · refine OpI_same (r := -4) (by omega) H (fun Q => ?_) (fun Q => ?_)
    · rw [C_62]
      simp (disch := omega) only [X_62_0, X_62_1, X_62_4, X_62_7_t, X_62_7_f, X_62_7, X_62_10, X_62_12, X_62_13, X_62_14, X_62_17_t, X_62_17_f, X_62_17, X_62_20, X_62_21, X_62_22, X_62_23, X_62_24, X_62_27, X_62_28, X_62_29, X_62_32, X_62_33, X_62_34_t, X_62_34_f, X_62_34, X_62_37, X_62_38, X_62_39, X_62_40, X_62_41, X_62_44, X_62_45, X_62_46, X_62_49, X_62_50, X_62_53, X_62_54, X_62_57, X_62_60, X_62_61, X_62_62, X_62_63, X_62_67, X_62_68_t, X_62_68_f, X_62_68, X_62_71, X_62_72, X_62_75, X_62_77, X_62_80_t, X_62_80_f, X_62_80, X_62_83, X_62_84, X_62_87, X_62_89, X_62_92, X_62_93, X_62_96, X_62_97, X_62_100, X_62_103_t, X_62_103_f, X_62_103, X_62_106, X_62_107, X_62_108, X_62_110, X_62_111, X_62_112, X_62_113, X_62_114, X_62_117, X_62_119, X_62_122, X_62_125, X_62_128, X_62_129, r1_0_2]
    · rw [C_176]
      simp (disch := omega) only [X_176_0, X_176_1, X_176_4_t, X_176_4_f, X_176_4, X_176_7, X_176_9, X_176_10, X_176_11, X_176_14_t, X_176_14_f, X_176_14, X_176_17, X_176_18, X_176_19, X_176_20, X_176_21, X_176_24, X_176_25, X_176_26, X_176_27_t, X_176_27_f, X_176_27, X_176_30, X_176_31, X_176_32, X_176_33, X_176_34, X_176_35, X_176_39, X_176_40_t, X_176_40_f, X_176_40, X_176_43, X_176_44, X_176_45, X_176_46, X_176_48, X_176_51_t, X_176_51_f, X_176_51, X_176_54, X_176_55, X_176_56, X_176_59_t, X_176_59_f, X_176_59, X_176_62, X_176_63, X_176_65, X_176_66, X_176_69, X_176_70, X_176_71, X_176_72, X_176_75, X_176_78, X_176_79]
  obtain ⟨L1, L2, L3⟩ := L
  by_cases h1 : 0 ≤ x ∧ x < 6
  case neg =>
    refine OpI_same (r := -1) (by omega) H (fun Q => ?_) (fun Q => ?_)
    · rw [C_62]
      simp (disch := omega) only [X_62_0, X_62_1, X_62_4, X_62_7_t, X_62_7_f, X_62_7, X_62_10, X_62_12, X_62_13, X_62_14, X_62_17_t, X_62_17_f, X_62_17, X_62_20, X_62_21, X_62_22, X_62_23, X_62_24, X_62_27, X_62_28, X_62_29, X_62_32, X_62_33, X_62_34_t, X_62_34_f, X_62_34, X_62_37, X_62_38, X_62_39, X_62_40, X_62_41, X_62_44, X_62_45, X_62_46, X_62_49, X_62_50, X_62_53, X_62_54, X_62_57, X_62_60, X_62_61, X_62_62, X_62_63, X_62_67, X_62_68_t, X_62_68_f, X_62_68, X_62_71, X_62_72, X_62_75, X_62_77, X_62_80_t, X_62_80_f, X_62_80, X_62_83, X_62_84, X_62_87, X_62_89, X_62_92, X_62_93, X_62_96, X_62_97, X_62_100, X_62_103_t, X_62_103_f, X_62_103, X_62_106, X_62_107, X_62_108, X_62_110, X_62_111, X_62_112, X_62_113, X_62_114, X_62_117, X_62_119, X_62_122, X_62_125, X_62_128, X_62_129, r1_0_2, S_isRow_f, pushR_some]
    · rw [C_176]
      simp (disch := omega) only [X_176_0, X_176_1, X_176_4_t, X_176_4_f, X_176_4, X_176_7, X_176_9, X_176_10, X_176_11, X_176_14_t, X_176_14_f, X_176_14, X_176_17, X_176_18, X_176_19, X_176_20, X_176_21, X_176_24, X_176_25, X_176_26, X_176_27_t, X_176_27_f, X_176_27, X_176_30, X_176_31, X_176_32, X_176_33, X_176_34, X_176_35, X_176_39, X_176_40_t, X_176_40_f, X_176_40, X_176_43, X_176_44, X_176_45, X_176_46, X_176_48, X_176_51_t, X_176_51_f, X_176_51, X_176_54, X_176_55, X_176_56, X_176_59_t, X_176_59_f, X_176_59, X_176_62, X_176_63, X_176_65, X_176_66, X_176_69, X_176_70, X_176_71, X_176_72, X_176_75, X_176_78, X_176_79, S3_isRow_f, pushR_some]
  obtain ⟨r, rfl⟩ := nat_of h1.1
  have hr : r < 6 := by omega
  have hR := rows_r hr
  have sR := rw_s hR.2
  have R := H.2.2.1 r hr
  have R' := R
  obtain ⟨R1, R2, R3, R4, R5⟩ := R'
  by_cases h2 : h 68 r < 0
  case pos =>
    have cF : ∀ Q, call 29 91 [.inr (.inr (some 0)), .inr (.inr (some (22 + 2 * r)))] G1 h Q = Q (some (.inl (-3))) G1 (fnd h 1) := fun Q => S_pcr_m (by omega) hr R h2
    have w68 : fnd h 1 68 r = h 68 r := by rw [fnd_o (by omega) (by omega)]
    have w63 : fnd h 1 63 1 = 1 := by rw [fnd_o (by omega) (by omega)]; exact L1
    refine OpI_find (w := 1) (by omega) H (fun Q => ?_) (fun Q => ?_)
    · rw [C_62]
      simp (disch := omega) only [X_62_0, X_62_1, X_62_4, X_62_7_t, X_62_7_f, X_62_7, X_62_10, X_62_12, X_62_13, X_62_14, X_62_17_t, X_62_17_f, X_62_17, X_62_20, X_62_21, X_62_22, X_62_23, X_62_24, X_62_27, X_62_28, X_62_29, X_62_32, X_62_33, X_62_34_t, X_62_34_f, X_62_34, X_62_37, X_62_38, X_62_39, X_62_40, X_62_41, X_62_44, X_62_45, X_62_46, X_62_49, X_62_50, X_62_53, X_62_54, X_62_57, X_62_60, X_62_61, X_62_62, X_62_63, X_62_67, X_62_68_t, X_62_68_f, X_62_68, X_62_71, X_62_72, X_62_75, X_62_77, X_62_80_t, X_62_80_f, X_62_80, X_62_83, X_62_84, X_62_87, X_62_89, X_62_92, X_62_93, X_62_96, X_62_97, X_62_100, X_62_103_t, X_62_103_f, X_62_103, X_62_106, X_62_107, X_62_108, X_62_110, X_62_111, X_62_112, X_62_113, X_62_114, X_62_117, X_62_119, X_62_122, X_62_125, X_62_128, X_62_129, r1_0_2, r1_0_0, S_isRow_t, Int.toNat_natCast, hR.1, cF, pushR_some, fixp_i]
    · rw [C_176]
      simp (disch := omega) only [X_176_0, X_176_1, X_176_4_t, X_176_4_f, X_176_4, X_176_7, X_176_9, X_176_10, X_176_11, X_176_14_t, X_176_14_f, X_176_14, X_176_17, X_176_18, X_176_19, X_176_20, X_176_21, X_176_24, X_176_25, X_176_26, X_176_27_t, X_176_27_f, X_176_27, X_176_30, X_176_31, X_176_32, X_176_33, X_176_34, X_176_35, X_176_39, X_176_40_t, X_176_40_f, X_176_40, X_176_43, X_176_44, X_176_45, X_176_46, X_176_48, X_176_51_t, X_176_51_f, X_176_51, X_176_54, X_176_55, X_176_56, X_176_59_t, X_176_59_f, X_176_59, X_176_62, X_176_63, X_176_65, X_176_66, X_176_69, X_176_70, X_176_71, X_176_72, X_176_75, X_176_78, X_176_79, S3_isRow_t, S3_lp_m, pushR_some, fixp_i]
  by_cases h3 : h 68 r = 14
  case neg =>
    have cF : ∀ Q, call 29 91 [.inr (.inr (some 0)), .inr (.inr (some (22 + 2 * r)))] G1 h Q = Q (some (.inl (-3))) G1 (fnd h 5) := fun Q => S_pcr_s (by omega) hr R (by omega) (by omega)
    have w68 : fnd h 5 68 r = h 68 r := by rw [fnd_o (by omega) (by omega)]
    have w63 : fnd h 5 63 1 = 1 := by rw [fnd_o (by omega) (by omega)]; exact L1
    refine OpI_find (w := 5) (by omega) H (fun Q => ?_) (fun Q => ?_)
    · rw [C_62]
      simp (disch := omega) only [X_62_0, X_62_1, X_62_4, X_62_7_t, X_62_7_f, X_62_7, X_62_10, X_62_12, X_62_13, X_62_14, X_62_17_t, X_62_17_f, X_62_17, X_62_20, X_62_21, X_62_22, X_62_23, X_62_24, X_62_27, X_62_28, X_62_29, X_62_32, X_62_33, X_62_34_t, X_62_34_f, X_62_34, X_62_37, X_62_38, X_62_39, X_62_40, X_62_41, X_62_44, X_62_45, X_62_46, X_62_49, X_62_50, X_62_53, X_62_54, X_62_57, X_62_60, X_62_61, X_62_62, X_62_63, X_62_67, X_62_68_t, X_62_68_f, X_62_68, X_62_71, X_62_72, X_62_75, X_62_77, X_62_80_t, X_62_80_f, X_62_80, X_62_83, X_62_84, X_62_87, X_62_89, X_62_92, X_62_93, X_62_96, X_62_97, X_62_100, X_62_103_t, X_62_103_f, X_62_103, X_62_106, X_62_107, X_62_108, X_62_110, X_62_111, X_62_112, X_62_113, X_62_114, X_62_117, X_62_119, X_62_122, X_62_125, X_62_128, X_62_129, r1_0_2, r1_0_0, S_isRow_t, Int.toNat_natCast, hR.1, cF, pushR_some, fixp_i]
    · rw [C_176]
      simp (disch := omega) only [X_176_0, X_176_1, X_176_4_t, X_176_4_f, X_176_4, X_176_7, X_176_9, X_176_10, X_176_11, X_176_14_t, X_176_14_f, X_176_14, X_176_17, X_176_18, X_176_19, X_176_20, X_176_21, X_176_24, X_176_25, X_176_26, X_176_27_t, X_176_27_f, X_176_27, X_176_30, X_176_31, X_176_32, X_176_33, X_176_34, X_176_35, X_176_39, X_176_40_t, X_176_40_f, X_176_40, X_176_43, X_176_44, X_176_45, X_176_46, X_176_48, X_176_51_t, X_176_51_f, X_176_51, X_176_54, X_176_55, X_176_56, X_176_59_t, X_176_59_f, X_176_59, X_176_62, X_176_63, X_176_65, X_176_66, X_176_69, X_176_70, X_176_71, X_176_72, X_176_75, X_176_78, X_176_79, S3_isRow_t, S3_lp_s, pushR_some, fixp_i]
  have cF : ∀ Q, call 29 91 [.inr (.inr (some 0)), .inr (.inr (some (22 + 2 * r)))] G1 h Q = _ := fun Q => S_pcr_a (by omega) hr R (by omega)
  have cL : ∀ (h' : AH) Q, h' 67 = h 67 → h' 68 = h 68 → call 29 173 [.inr (.inr (some 63)), .inl (r : Int)] G1 h' Q = if pcOk h r = true then Q (some (.inl 1)) G1 h' else Q (some (.inl (-3))) G1 (fn3 h' 3) := fun h' Q e1 e2 => by
    have e3 : pcOk h' r = pcOk h r := by unfold pcOk; rw [e1]
    rw [S3_lp_a (by omega) hr (by rw [e2]; omega) (fun k hk => by rw [e1]; rw [e2] at hk; exact (R5 k hk).2), e3]
  by_cases hm : pcOk h r = true
  case neg =>
    have cL2 := fun Q => cL (fnd h 3) Q (fnd_o (by omega) (by omega)) (fnd_o (by omega) (by omega))
    have w63 : fnd h 3 63 1 = 1 := by rw [fnd_o (by omega) (by omega)]; exact L1
    refine OpI_find (w := 3) (by omega) H (fun Q => ?_) (fun Q => ?_)
    · rw [C_62]
      simp (disch := omega) only [X_62_0, X_62_1, X_62_4, X_62_7_t, X_62_7_f, X_62_7, X_62_10, X_62_12, X_62_13, X_62_14, X_62_17_t, X_62_17_f, X_62_17, X_62_20, X_62_21, X_62_22, X_62_23, X_62_24, X_62_27, X_62_28, X_62_29, X_62_32, X_62_33, X_62_34_t, X_62_34_f, X_62_34, X_62_37, X_62_38, X_62_39, X_62_40, X_62_41, X_62_44, X_62_45, X_62_46, X_62_49, X_62_50, X_62_53, X_62_54, X_62_57, X_62_60, X_62_61, X_62_62, X_62_63, X_62_67, X_62_68_t, X_62_68_f, X_62_68, X_62_71, X_62_72, X_62_75, X_62_77, X_62_80_t, X_62_80_f, X_62_80, X_62_83, X_62_84, X_62_87, X_62_89, X_62_92, X_62_93, X_62_96, X_62_97, X_62_100, X_62_103_t, X_62_103_f, X_62_103, X_62_106, X_62_107, X_62_108, X_62_110, X_62_111, X_62_112, X_62_113, X_62_114, X_62_117, X_62_119, X_62_122, X_62_125, X_62_128, X_62_129, r1_0_2, r1_0_0, S_isRow_t, Int.toNat_natCast, hR.1, cF, if_neg hm, pushR_some, fixp_i]
    · rw [C_176]
      simp (disch := omega) only [X_176_0, X_176_1, X_176_4_t, X_176_4_f, X_176_4, X_176_7, X_176_9, X_176_10, X_176_11, X_176_14_t, X_176_14_f, X_176_14, X_176_17, X_176_18, X_176_19, X_176_20, X_176_21, X_176_24, X_176_25, X_176_26, X_176_27_t, X_176_27_f, X_176_27, X_176_30, X_176_31, X_176_32, X_176_33, X_176_34, X_176_35, X_176_39, X_176_40_t, X_176_40_f, X_176_40, X_176_43, X_176_44, X_176_45, X_176_46, X_176_48, X_176_51_t, X_176_51_f, X_176_51, X_176_54, X_176_55, X_176_56, X_176_59_t, X_176_59_f, X_176_59, X_176_62, X_176_63, X_176_65, X_176_66, X_176_69, X_176_70, X_176_71, X_176_72, X_176_75, X_176_78, X_176_79, S3_isRow_t, cL2, if_neg hm, pushR_some, fixp_i]
  have mk := pcOk_iff hm
  have hf := FUL_ty L3
  have hz := H.2.2.2.2.1.2.2.2
  have cW : ∀ Q, call 29 107 [.inr (.inr (some 0)), .inr (.inr (some (22 + 2 * r)))] G1 h Q = Q none G1 (setR h 19 (mixR 14 (h (23 + 2 * r)) (h 19))) := fun Q => S_want (by omega) hr
  generalize eW : setR h 19 (mixR 14 (h (23 + 2 * r)) (h 19)) = hv at cW
  have vo : ∀ a, ¬ a = 19 → hv a = h a := fun a z => by rw [← eW, setR_n z]
  have v19 : ∀ c, c < 14 → hv 19 c = h 67 (40 * r + c) := fun c hc => by rw [← eW, setR_s, mix_lt hc, (R5 c (by omega)).1]
  have T3 : TR hv 3 (h 64) := TR_keep L3.1 (vo _ (by omega)) (vo _ (by omega)) (vo _ (by omega)) (vo _ (by omega)) (vo _ (by omega)) (by rw [vo _ (by omega)])
  obtain ⟨ha, cA, TA, FA, A8, A9⟩ := S_takeBeads (d := 29) (t := 10) (u := 3) (h := hv) (f := h 64) (by omega) t10 t3 (by omega) T3 (Or.inr (by rw [vo _ (by omega)]; exact L2)) hf.1
  obtain ⟨hd, cR, FR⟩ := L_which (d := 29) (r := (r : Int)) (s := 0) (f := h 64) (w := fun c => h 67 (40 * r + c)) (N := 40) (by omega) hf (by omega) mk 4 0 0 ha (by omega) (by rw [FA _ (by omega), vo _ (by omega)]; exact H.1) (fun c hc => by rw [FA _ (by omega), v19 c hc]) TA
  have fd : ∀ a, (a < 10 ∨ 17 ≤ a) → ¬ a = 19 → hd a = h a := fun a a1 a2 => by rw [FR a (by omega), FA a (by omega), vo a a2]
  have d67 : hd 67 = h 67 := fd 67 (by omega) (by omega)
  have d68 : hd 68 = h 68 := fd 68 (by omega) (by omega)
  have d64 : hd 64 = h 64 := fd 64 (by omega) (by omega)
  have d63 : hd 63 1 = 1 := by rw [fd 63 (by omega) (by omega), L1]
  have d74 : ∀ s, 98 ≤ s → hd 74 s = 0 := fun s hs => by rw [fd 74 (by omega) (by omega)]; exact H.2.1 s hs
  have cL2 := fun Q => cL hd Q d67 d68
  obtain ⟨F, q1, qF⟩ := M_which (d := 29) (r := r) (s := 1) (N := 40) (h := hd) (by omega) hr (by rw [d64]; exact hf) (by omega) (by rw [d67]; exact mk) 4 0 0 (hd 74) (by omega) (by omega) (fun s hs => by rw [d74 s hs, d64, hz s hs])
  rw [d67, d64, setR_e] at q1
  have bb := bts_b (P := whP (h 64) (fun c => h 67 (40 * r + c))) (n := 4) (i := 0) (a := 0) (by omega)
  refine ⟨bts (whP (h 64) (fun c => h 67 (40 * r + c))) 4 0 0, hd, setR hd 74 F, by omega, fun Q => ?_, fun Q => ?_, INV_same (INV_scr H (fun a a1 => ?_) (fun s hs => ?_))⟩
  · rw [C_62]
    simp (disch := omega) only [X_62_0, X_62_1, X_62_4, X_62_7_t, X_62_7_f, X_62_7, X_62_10, X_62_12, X_62_13, X_62_14, X_62_17_t, X_62_17_f, X_62_17, X_62_20, X_62_21, X_62_22, X_62_23, X_62_24, X_62_27, X_62_28, X_62_29, X_62_32, X_62_33, X_62_34_t, X_62_34_f, X_62_34, X_62_37, X_62_38, X_62_39, X_62_40, X_62_41, X_62_44, X_62_45, X_62_46, X_62_49, X_62_50, X_62_53, X_62_54, X_62_57, X_62_60, X_62_61, X_62_62, X_62_63, X_62_67, X_62_68_t, X_62_68_f, X_62_68, X_62_71, X_62_72, X_62_75, X_62_77, X_62_80_t, X_62_80_f, X_62_80, X_62_83, X_62_84, X_62_87, X_62_89, X_62_92, X_62_93, X_62_96, X_62_97, X_62_100, X_62_103_t, X_62_103_f, X_62_103, X_62_106, X_62_107, X_62_108, X_62_110, X_62_111, X_62_112, X_62_113, X_62_114, X_62_117, X_62_119, X_62_122, X_62_125, X_62_128, X_62_129, r1_0_2, r1_0_0, r1_0_3, S_isRow_t, Int.toNat_natCast, hR.1, cF, if_pos hm, cW, cA, pushR_some, pushR_none, fixp_i]
    exact cR Q
  · rw [C_176]
    simp (disch := omega) only [X_176_0, X_176_1, X_176_4_t, X_176_4_f, X_176_4, X_176_7, X_176_9, X_176_10, X_176_11, X_176_14_t, X_176_14_f, X_176_14, X_176_17, X_176_18, X_176_19, X_176_20, X_176_21, X_176_24, X_176_25, X_176_26, X_176_27_t, X_176_27_f, X_176_27, X_176_30, X_176_31, X_176_32, X_176_33, X_176_34, X_176_35, X_176_39, X_176_40_t, X_176_40_f, X_176_40, X_176_43, X_176_44, X_176_45, X_176_46, X_176_48, X_176_51_t, X_176_51_f, X_176_51, X_176_54, X_176_55, X_176_56, X_176_59_t, X_176_59_f, X_176_59, X_176_62, X_176_63, X_176_65, X_176_66, X_176_69, X_176_70, X_176_71, X_176_72, X_176_75, X_176_78, X_176_79, S3_isRow_t, cL2, if_pos hm, pushR_some, pushR_none, fixp_i]
    exact q1 Q
  · have n74 : ¬ a = 74 := fun z => a1 (by unfold scr; omega)
    have n19 : ¬ a = 19 := fun z => a1 (by unfold scr; omega)
    have n10 : a < 10 ∨ 17 ≤ a := by have : ¬ (10 ≤ a ∧ a < 17) := fun z => a1 (Or.inl z); omega
    rw [setR_n n74, fd a n10 n19]
  · rw [setR_s, qF s hs, d64]; exact hz s hs
