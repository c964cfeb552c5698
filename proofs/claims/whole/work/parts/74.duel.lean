/-! 74: by turns, the class -/
def ldF (f : TF) : Int := shF f 1 + shF f 2 + shF f 3 + shF f 5 + shF f 6 + shF f 7 - shF f 8 - shF f 9 - shF f 10 - shF f 11 - shF f 12 - shF f 13
theorem ldF_rs {f : TF} : rsF f 0 - rsF f 1 = ldF f := by
  have e0 : rsF f 0 = 0 + shF f 0 + shF f 1 + shF f 2 + shF f 3 + shF f 4 + shF f 5 + shF f 6 + shF f 7 := rfl
  have e1 : rsF f 1 = 0 + shF f 0 + shF f 8 + shF f 9 + shF f 10 + shF f 4 + shF f 11 + shF f 12 + shF f 13 := rfl
  rw [e0, e1]
  unfold ldF
  omega
theorem ldF_b {f : TF} {N : Int} (hf : tyOk f N) (hN : N ≤ 900000) : -54 ≤ ldF f ∧ ldF f ≤ 54 := by
  have s := fun c hc => shF_rng hf hN (c := c) hc
  have s1 := s 1 (by omega)
  have s2 := s 2 (by omega)
  have s3 := s 3 (by omega)
  have s5 := s 5 (by omega)
  have s6 := s 6 (by omega)
  have s7 := s 7 (by omega)
  have s8 := s 8 (by omega)
  have s9 := s 9 (by omega)
  have s10 := s 10 (by omega)
  have s11 := s 11 (by omega)
  have s12 := s 12 (by omega)
  have s13 := s 13 (by omega)
  unfold ldF
  omega
theorem S_lead {d : Nat} {N : Int} {f : TF} {h : AH} {Q : Option AV → AG → AH → Prop} (hd : 5 ≤ d) (hR : h 1000 = rgT) (hT : TR h 10 f) (hf : tyOk f N) (hN : N ≤ 900000) : call d 34 [.inr (.inr (some 10))] G1 h Q = Q (some (.inl (ldF f))) G1 h := by
  obtain ⟨d, rfl, hd2⟩ := pos_of hd
  have t10 : isToy 10 := Or.inr (Or.inl rfl)
  have s10 := toy_s t10
  have c0 : ∀ Q, call d 33 [.inr (.inr (some 10)), .inl 0] G1 h Q = Q (some (.inl (rsF f 0))) G1 h := fun Q => S_ringShows (ring := 0) hd2 t10 (by omega) hR hT hf hN
  have c1 : ∀ Q, call d 33 [.inr (.inr (some 10)), .inl 1] G1 h Q = Q (some (.inl (rsF f 1))) G1 h := fun Q => S_ringShows (ring := 1) hd2 t10 (by omega) hR hT hf hN
  rw [C_34]
  simp (disch := omega) only [X_34_0, X_34_1, X_34_2, X_34_5, X_34_6, X_34_7, X_34_10, X_34_11, c0, c1, pushR_some, ldF_rs]
/-- the better of two -/
def stp (W : Bool) (b v : Int) : Int := match W with
  | true => if b < v then v else b
  | false => if v < b then v else b
def opt (W : Bool) (D : TF → Int) (f : TF) (b : Int) (m : Nat) : Int := if barM f (m : Int) then b else stp W b (D (mvF f (m : Int)))
def fo (W : Bool) (D : TF → Int) (f : TF) : Nat → Nat → Int → Int
  | 0, _, b => b
  | n + 1, j, b => fo W D f n (j + 1) (opt W D f b j)
def ini0 (W : Bool) : Int := match W with
  | true => -1000000
  | false => 1000000
def mm : Nat → TF → Int
  | 0, f => ldF f
  | k + 1, f => stp (decide ((k + 1) % 2 = 0)) (fo (decide ((k + 1) % 2 = 0)) (mm k) f 4 0 (ini0 (decide ((k + 1) % 2 = 0)))) (mm k f)
theorem stp_c {W : Bool} {b x y : Int} : stp W (stp W b x) y = stp W (stp W b y) x := by
  cases W
  · simp only [stp]
    split <;> split <;> (try split) <;> omega
  · simp only [stp]
    split <;> split <;> (try split) <;> omega
theorem opt_c {W : Bool} {D : TF → Int} {f : TF} {b x : Int} {m : Nat} : stp W (opt W D f b m) x = opt W D f (stp W b x) m := by
  unfold opt
  split
  · rfl
  · exact stp_c
theorem fo_c {W : Bool} {D : TF → Int} {f : TF} {x : Int} : ∀ {n j : Nat} {b : Int}, stp W (fo W D f n j b) x = fo W D f n j (stp W b x)
  | 0, _, _ => rfl
  | n + 1, j, b => by
    unfold fo
    rw [fo_c, opt_c]
theorem mm_s {k : Nat} {f : TF} : mm (k + 1) f = fo (decide ((k + 1) % 2 = 0)) (mm k) f 4 0 (stp (decide ((k + 1) % 2 = 0)) (ini0 (decide ((k + 1) % 2 = 0))) (mm k f)) := by
  conv => lhs; unfold mm
  rw [fo_c]
theorem fo_t {D : TF → Int} {f : TF} : ∀ {n j : Nat} {b : Int}, b ≤ fo true D f n j b
  | 0, _, _ => Int.le_refl _
  | n + 1, j, b => by
    have q := fo_t (D := D) (f := f) (n := n) (j := j + 1) (b := opt true D f b j)
    have q2 : b ≤ opt true D f b j := by
      unfold opt stp
      split
      · exact Int.le_refl _
      · dsimp only
        split <;> omega
    unfold fo
    omega
theorem fo_f {D : TF → Int} {f : TF} : ∀ {n j : Nat} {b : Int}, fo false D f n j b ≤ b
  | 0, _, _ => Int.le_refl _
  | n + 1, j, b => by
    have q := fo_f (D := D) (f := f) (n := n) (j := j + 1) (b := opt false D f b j)
    have q2 : opt false D f b j ≤ b := by
      unfold opt stp
      split
      · exact Int.le_refl _
      · dsimp only
        split <;> omega
    unfold fo
    omega
theorem stp_b {W : Bool} {b v : Int} (h1 : -54 ≤ b ∧ b ≤ 54) (h2 : -54 ≤ v ∧ v ≤ 54) : -54 ≤ stp W b v ∧ stp W b v ≤ 54 := by
  cases W <;> simp only [stp] <;> split <;> omega
theorem fo_b {W : Bool} {D : TF → Int} {f : TF} (hD : ∀ m : Nat, m < 4 → ¬ barM f (m : Int) → -54 ≤ D (mvF f (m : Int)) ∧ D (mvF f (m : Int)) ≤ 54) : ∀ {n j : Nat} {b : Int}, j + n ≤ 4 → -54 ≤ b ∧ b ≤ 54 → -54 ≤ fo W D f n j b ∧ fo W D f n j b ≤ 54
  | 0, _, _, _, h => h
  | n + 1, j, b, hj, h => by
    unfold fo
    refine fo_b hD (by omega) ?_
    unfold opt
    by_cases e : barM f (j : Int)
    · rw [if_pos e]; exact h
    · rw [if_neg e]; exact stp_b h (hD j (by omega) e)
theorem stp_i {W : Bool} {v : Int} (h2 : -54 ≤ v ∧ v ≤ 54) : stp W (ini0 W) v = v := by
  cases W
  · show (if v < 1000000 then v else 1000000) = v
    rw [if_pos (by omega)]
  · show (if -1000000 < v then v else -1000000) = v
    rw [if_pos (by omega)]
theorem mm_b : ∀ {k : Nat} {f : TF} {N : Int}, tyOk f N → N + (k : Int) ≤ 900000 → -54 ≤ mm k f ∧ mm k f ≤ 54
  | 0, f, N, hf, hN => ldF_b hf (by omega)
  | k + 1, f, N, hf, hN => by
    have q := mm_b (k := k) hf (by omega)
    rw [mm_s, stp_i q]
    exact fo_b (fun m hm _ => mm_b (mvF_ty (by omega) hf) (by omega)) (by omega) q
/-- what a play with bounds answers against what comes of it -/
def Rv (low high v x : Int) : Prop := v = x ∨ (v ≤ low ∧ x ≤ low) ∨ (high ≤ v ∧ high ≤ x)
def RR (W : Bool) (low high least most b : Int) : Prop := match W with
  | true => most = high ∧ ((b ≤ low ∧ least = low) ∨ (low < b ∧ b < high ∧ least = b) ∨ (high ≤ b ∧ high ≤ least))
  | false => least = low ∧ ((high ≤ b ∧ most = high) ∨ (low < b ∧ b < high ∧ most = b) ∨ (b ≤ low ∧ most ≤ low))
theorem S_mk_n {d : Nat} {h : AH} {Q : Option AV → AG → AH → Prop} (hd : 3 ≤ d) : call d 25 [.inr (.inr (some 10)), .inl (-1)] G1 h Q = Q none G1 h := by
  obtain ⟨d, rfl, hd2⟩ := pos_of hd
  have s10 := toy_s (t := 10) (Or.inr (Or.inl rfl))
  rw [C_25]
  simp (disch := omega) only [X_25_0, X_25_1, X_25_4_t, X_25_4_f, X_25_4, X_25_7, X_25_8, X_25_9, X_25_12, X_25_13, X_25_14, X_25_15, X_25_18, X_25_19, X_25_20, X_25_23, X_25_24, X_25_25, X_25_28, S_isMove_f, pushR_some]
theorem S_tb_n {d : Nat} {h : AH} {Q : Option AV → AG → AH → Prop} (hd : 3 ≤ d) : call d 26 [.inr (.inr (some 10)), .inl (-1)] G1 h Q = Q none G1 h := by
  obtain ⟨d, rfl, hd2⟩ := pos_of hd
  have s10 := toy_s (t := 10) (Or.inr (Or.inl rfl))
  rw [C_26]
  simp (disch := omega) only [X_26_0, X_26_1, X_26_4_t, X_26_4_f, X_26_4, X_26_7, X_26_8, X_26_9, X_26_10, X_26_11, X_26_14, X_26_15, X_26_16, X_26_17, X_26_20, X_26_21, X_26_22, X_26_25, X_26_26, X_26_27, X_26_30, S_isMove_f, pushR_some]
def LBT (k : Nat) : Prop := ∀ (d : Nat) (f : TF) (N low high : Int) (h : AH), 6 + k ≤ d → N + (k : Int) ≤ 900000 → low < high → -1000 ≤ low → high ≤ 1000 → h 1000 = rgT → TR h 10 f → tyOk f N → ∃ (v : Int) (h' : AH), (∀ Q, call d 114 [.inr (.inr (some 0)), .inl (k : Int), .inl low, .inl high] G1 h Q = Q (some (.inl v)) G1 h') ∧ Rv low high v (mm k f) ∧ (-1000 ≤ v ∧ v ≤ 1000) ∧ TR h' 10 f ∧ (∀ a, (a < 10 ∨ 16 ≤ a) → h' a = h a)
theorem LBT_0 : LBT 0 := by
  intro d f N low high h hd hN hlt hlo hhi eR hT hf
  obtain ⟨d, rfl, hd2⟩ := pos_of hd
  have g0 := g1_0
  have s10 := toy_s (t := 10) (Or.inr (Or.inl rfl))
  have lb := ldF_b hf (by omega)
  refine ⟨ldF f, h, fun Q => ?_, Or.inl rfl, by omega, hT, fun _ _ => rfl⟩
  have cl : ∀ Q, call d 34 [.inr (.inr (some 10))] G1 h Q = Q (some (.inl (ldF f))) G1 h := fun Q => S_lead (by omega) eR hT hf (by omega)
  rw [C_114]
  simp (disch := omega) only [X_114_0, X_114_1_t, X_114_1_f, X_114_1, X_114_4, X_114_5, X_114_7_t, X_114_7_f, X_114_7, X_114_10, X_114_11, X_114_14, X_114_17, X_114_18, X_114_19, X_114_20, X_114_21_t, X_114_21_f, X_114_21, X_114_24, X_114_25, X_114_28, X_114_29, X_114_31, X_114_32, X_114_34, X_114_35, X_114_37, X_114_38, X_114_42, X_114_43_t, X_114_43_f, X_114_43, X_114_46, X_114_48, X_114_50_t, X_114_50_f, X_114_50, X_114_53, X_114_54, X_114_57, X_114_59, X_114_62_t, X_114_62_f, X_114_62, X_114_65, X_114_66, X_114_69, X_114_71, X_114_74, X_114_75, X_114_76, X_114_77, X_114_78, X_114_80, X_114_82, X_114_85, X_114_87, X_114_88, X_114_91, X_114_93, X_114_96, X_114_98_t, X_114_98_f, X_114_98, X_114_101, X_114_103, X_114_105, X_114_108, X_114_110, X_114_113, X_114_115, X_114_117, X_114_120, X_114_122, X_114_125, X_114_128, X_114_130_t, X_114_130_f, X_114_130, X_114_133, X_114_135, X_114_138, X_114_140, r1_0_3, cl, pushR_some]

theorem L_lbt_t {k d : Nat} {f : TF} {N low high : Int} (ih : LBT k) (hd : 6 + k ≤ d) (hN : N + 1 + (k : Int) ≤ 900000) (hk : k ≤ 6) (hb0 : (-1000 ≤ low ∧ low ≤ 1000) ∧ -1000 ≤ high ∧ high ≤ 1000) (hf : tyOk f N) : ∀ (n j : Nat) (least most b : Int) (h : AH) (l8 : Option AV), j + n = 4 → RR true low high least most b → ((-1000 ≤ least ∧ least ≤ 1000) ∧ -1000 ≤ most ∧ most ≤ 1000) → h 1000 = rgT → TR h 10 f → ∃ (v : Int) (h' : AH), (∀ Q, wp d 114 40 [some (.inr (.inr (some 0))), some (.inl ((k + 1 : Nat) : Int)), some (.inl low), some (.inl high), some (.inl 1), some (.inl least), some (.inl most), some (.inl (j : Int)), l8] [] G1 h Q = Q (some (.inl v)) G1 h') ∧ Rv low high v (fo true (mm k) f n j b) ∧ (-1000 ≤ v ∧ v ≤ 1000) ∧ TR h' 10 f ∧ (∀ a, (a < 10 ∨ 16 ≤ a) → h' a = h a) := by
  have g0 := g1_0
  have t10 : isToy 10 := Or.inr (Or.inl rfl)
  have s10 := toy_s t10
  have ek : ((k + 1 : Nat) : Int) - 1 = (k : Int) := by omega
  intro n
  induction n with
  | zero =>
    intro j least most b h l8 hj hR hb eR hT
    obtain rfl : j = 4 := by omega
    refine ⟨least, h, fun Q => ?_, ?_, by omega, hT, fun _ _ => rfl⟩
    · simp (disch := omega) only [X_114_40, X_114_0, X_114_1_t, X_114_1_f, X_114_1, X_114_4, X_114_5, X_114_7_t, X_114_7_f, X_114_7, X_114_10, X_114_11, X_114_14, X_114_17, X_114_18, X_114_19, X_114_20, X_114_21_t, X_114_21_f, X_114_21, X_114_24, X_114_25, X_114_28, X_114_29, X_114_31, X_114_32, X_114_34, X_114_35, X_114_37, X_114_38, X_114_42, X_114_43_t, X_114_43_f, X_114_43, X_114_46, X_114_48, X_114_50_t, X_114_50_f, X_114_50, X_114_53, X_114_54, X_114_57, X_114_59, X_114_62_t, X_114_62_f, X_114_62, X_114_65, X_114_66, X_114_69, X_114_71, X_114_74, X_114_75, X_114_76, X_114_77, X_114_78, X_114_80, X_114_82, X_114_85, X_114_87, X_114_88, X_114_91, X_114_93, X_114_96, X_114_98_t, X_114_98_f, X_114_98, X_114_101, X_114_103, X_114_105, X_114_108, X_114_110, X_114_113, X_114_115, X_114_117, X_114_120, X_114_122, X_114_125, X_114_128, X_114_130_t, X_114_130_f, X_114_130, X_114_133, X_114_135, X_114_138, X_114_140]
    · simp only [RR] at hR
      unfold Rv
      simp only [fo]
      omega
  | succ n ihn =>
    intro j least most b h l8 hj hR hb eR hT
    simp only [RR] at hR
    by_cases hlt : least < most
    case neg =>
      refine ⟨least, h, fun Q => ?_, ?_, by omega, hT, fun _ _ => rfl⟩
      · simp (disch := omega) only [X_114_40, X_114_0, X_114_1_t, X_114_1_f, X_114_1, X_114_4, X_114_5, X_114_7_t, X_114_7_f, X_114_7, X_114_10, X_114_11, X_114_14, X_114_17, X_114_18, X_114_19, X_114_20, X_114_21_t, X_114_21_f, X_114_21, X_114_24, X_114_25, X_114_28, X_114_29, X_114_31, X_114_32, X_114_34, X_114_35, X_114_37, X_114_38, X_114_42, X_114_43_t, X_114_43_f, X_114_43, X_114_46, X_114_48, X_114_50_t, X_114_50_f, X_114_50, X_114_53, X_114_54, X_114_57, X_114_59, X_114_62_t, X_114_62_f, X_114_62, X_114_65, X_114_66, X_114_69, X_114_71, X_114_74, X_114_75, X_114_76, X_114_77, X_114_78, X_114_80, X_114_82, X_114_85, X_114_87, X_114_88, X_114_91, X_114_93, X_114_96, X_114_98_t, X_114_98_f, X_114_98, X_114_101, X_114_103, X_114_105, X_114_108, X_114_110, X_114_113, X_114_115, X_114_117, X_114_120, X_114_122, X_114_125, X_114_128, X_114_130_t, X_114_130_f, X_114_130, X_114_133, X_114_135, X_114_138, X_114_140]
      · have q := fo_t (D := mm k) (f := f) (n := n + 1) (j := j) (b := b)
        unfold Rv
        omega
    have gj : 0 ≤ (j : Int) ∧ (j : Int) < 4 := by omega
    have cb : ∀ Q, call d 24 [.inr (.inr (some 10)), .inl (j : Int)] G1 h Q = if barM f (j : Int) then Q (some (.inl 1)) G1 h else Q (some (.inl 0)) G1 h := fun Q => S_bars (by omega) t10 gj hT hf.1 hf.2.2.1
    by_cases hbar : barM f (j : Int)
    · obtain ⟨v, h', c2, r2⟩ := ihn (j + 1) least most b h l8 (by omega) (by simp only [RR]; exact hR) hb eR hT
      have e : fo true (mm k) f (n + 1) j b = fo true (mm k) f n (j + 1) b := by
        conv => lhs; unfold fo opt; rw [if_pos hbar]
      rw [e]
      refine ⟨v, h', fun Q => ?_, r2⟩
      refine Eq.trans ?_ (c2 Q)
      conv => lhs; rw [X_114_40]
      conv => lhs; simp (disch := omega) only [X_114_0, X_114_1_t, X_114_1_f, X_114_1, X_114_4, X_114_5, X_114_7_t, X_114_7_f, X_114_7, X_114_10, X_114_11, X_114_14, X_114_17, X_114_18, X_114_19, X_114_20, X_114_21_t, X_114_21_f, X_114_21, X_114_24, X_114_25, X_114_28, X_114_29, X_114_31, X_114_32, X_114_34, X_114_35, X_114_37, X_114_38, X_114_42, X_114_43_t, X_114_43_f, X_114_43, X_114_46, X_114_48, X_114_50_t, X_114_50_f, X_114_50, X_114_53, X_114_54, X_114_57, X_114_59, X_114_62_t, X_114_62_f, X_114_62, X_114_65, X_114_66, X_114_69, X_114_71, X_114_74, X_114_75, X_114_76, X_114_77, X_114_78, X_114_80, X_114_82, X_114_85, X_114_87, X_114_88, X_114_91, X_114_93, X_114_96, X_114_98_t, X_114_98_f, X_114_98, X_114_101, X_114_103, X_114_105, X_114_108, X_114_110, X_114_113, X_114_115, X_114_117, X_114_120, X_114_122, X_114_125, X_114_128, X_114_130_t, X_114_130_f, X_114_130, X_114_133, X_114_135, X_114_138, X_114_140, r1_0_3, cb, if_pos hbar, pushR_some, fixp_i, natS]
    · obtain ⟨h1, c1, T1, F1⟩ := S_makeMove (d := d) (t := 10) (m := (j : Int)) (h := h) (f := f) (by omega) t10 eR gj hT hf.1
      have fo1 : ∀ a, (a < 10 ∨ 16 ≤ a) → h1 a = h a := fun a ha => F1.1 a (by omega)
      obtain ⟨v, h2, c2, R2, B2, T2, F2⟩ := ih d (mvF f (j : Int)) (N + 1) least most h1 (by omega) hN hlt (by omega) (by omega) (by rw [fo1 _ (by omega), eR]) T1 (mvF_ty gj hf)
      obtain ⟨h3, c3, T3, F3⟩ := S_takeBack (d := d) (t := 10) (m := (j : Int)) (h := h2) (g := f) (by omega) t10 (by rw [F2 _ (by omega), fo1 _ (by omega), eR]) gj T2 hf.1
      have fr : ∀ a, (a < 10 ∨ 16 ≤ a) → h3 a = h a := fun a ha => by rw [F3.1 a (by omega), F2 a ha, fo1 a ha]
      have e : fo true (mm k) f (n + 1) j b = fo true (mm k) f n (j + 1) (stp true b (mm k (mvF f (j : Int)))) := by
        conv => lhs; unfold fo opt; rw [if_neg hbar]
      have bm := mm_b (k := k) (mvF_ty gj hf) hN
      obtain ⟨u, h', c4, r4, B4, T4, F4⟩ := ihn (j + 1) (if least < v then v else least) most (stp true b (mm k (mvF f (j : Int)))) h3 (some (.inl v)) (by omega) (by
        simp only [RR, stp]
        unfold Rv at R2
        generalize mm k (mvF f (j : Int)) = x at *
        refine ⟨hR.1, ?_⟩
        split <;> split <;> omega) (by constructor <;> (try split) <;> omega) (by rw [fr _ (by omega), eR]) T3
      rw [e]
      refine ⟨u, h', fun Q => ?_, r4, B4, T4, fun a ha => by rw [F4 a ha, fr a ha]⟩
      refine Eq.trans ?_ (c4 Q)
      conv => lhs; rw [X_114_40]
      conv => lhs; simp (disch := omega) only [X_114_0, X_114_1_t, X_114_1_f, X_114_1, X_114_4, X_114_5, X_114_7_t, X_114_7_f, X_114_7, X_114_10, X_114_11, X_114_14, X_114_17, X_114_18, X_114_19, X_114_20, X_114_21_t, X_114_21_f, X_114_21, X_114_24, X_114_25, X_114_28, X_114_29, X_114_31, X_114_32, X_114_34, X_114_35, X_114_37, X_114_38, X_114_42, X_114_43_t, X_114_43_f, X_114_43, X_114_46, X_114_48, X_114_50_t, X_114_50_f, X_114_50, X_114_53, X_114_54, X_114_57, X_114_59, X_114_62_t, X_114_62_f, X_114_62, X_114_65, X_114_66, X_114_69, X_114_71, X_114_74, X_114_75, X_114_76, X_114_77, X_114_78, X_114_80, X_114_82, X_114_85, X_114_87, X_114_88, X_114_91, X_114_93, X_114_96, X_114_98_t, X_114_98_f, X_114_98, X_114_101, X_114_103, X_114_105, X_114_108, X_114_110, X_114_113, X_114_115, X_114_117, X_114_120, X_114_122, X_114_125, X_114_128, X_114_130_t, X_114_130_f, X_114_130, X_114_133, X_114_135, X_114_138, X_114_140, r1_0_3, cb, if_neg hbar, c1, ek, c2, c3, S_max, pushR_some, pushR_none, fixp_i, natS]
theorem LBT_t {k : Nat} (hk : k ≤ 6) (hW : decide ((k + 1) % 2 = 0) = true) (ih : LBT k) : LBT (k + 1) ∨ 6 < k + 1 := by
  by_cases hk6 : 6 < k + 1
  · exact Or.inr hk6
  refine Or.inl ?_
  intro d f N low high h hd hN hlt hlo hhi eR hT hf
  obtain ⟨d, rfl, hd2⟩ := pos_of hd
  have g0 := g1_0
  have t10 : isToy 10 := Or.inr (Or.inl rfl)
  have s10 := toy_s t10
  have ek : ((k + 1 : Nat) : Int) - 1 = (k : Int) := by omega
  have hW2 := hW
  simp only [decide_eq_true_eq, decide_eq_false_iff_not] at hW2
  have cb : ∀ Q, call d 24 [.inr (.inr (some 10)), .inl (-1)] G1 h Q = Q (some (.inl 0)) G1 h := fun Q => S_bars_n (by omega) t10
  obtain ⟨v, h2, c2, R2, B2, T2, F2⟩ := ih d f N low high h (by omega) (by omega) hlt hlo hhi eR hT hf
  have bm := mm_b (k := k) hf (by omega)
  have least := low
  obtain ⟨u, h', c4, r4, B4, T4, F4⟩ := L_lbt_t (k := k) (d := d) (f := f) (N := N) (low := low) (high := high) ih (by omega) (by omega) hk (by omega) hf 4 0 (if low < v then v else low) high (mm k f) h2 (some (.inl v)) (by omega) (by
    simp only [RR]
    unfold Rv at R2
    refine ⟨trivial, ?_⟩
    split <;> omega) (by constructor <;> (try split) <;> omega) (by rw [F2 _ (by omega), eR]) T2
  rw [mm_s, stp_i bm, hW]
  refine ⟨u, h', fun Q => ?_, r4, B4, T4, fun a ha => by rw [F4 a ha, F2 a ha]⟩
  refine Eq.trans ?_ (c4 Q)
  rw [C_114]
  conv => lhs; simp (disch := omega) only [X_114_0, X_114_1_t, X_114_1_f, X_114_1, X_114_4, X_114_5, X_114_7_t, X_114_7_f, X_114_7, X_114_10, X_114_11, X_114_14, X_114_17, X_114_18, X_114_19, X_114_20, X_114_21_t, X_114_21_f, X_114_21, X_114_24, X_114_25, X_114_28, X_114_29, X_114_31, X_114_32, X_114_34, X_114_35, X_114_37, X_114_38, X_114_42, X_114_43_t, X_114_43_f, X_114_43, X_114_46, X_114_48, X_114_50_t, X_114_50_f, X_114_50, X_114_53, X_114_54, X_114_57, X_114_59, X_114_62_t, X_114_62_f, X_114_62, X_114_65, X_114_66, X_114_69, X_114_71, X_114_74, X_114_75, X_114_76, X_114_77, X_114_78, X_114_80, X_114_82, X_114_85, X_114_87, X_114_88, X_114_91, X_114_93, X_114_96, X_114_98_t, X_114_98_f, X_114_98, X_114_101, X_114_103, X_114_105, X_114_108, X_114_110, X_114_113, X_114_115, X_114_117, X_114_120, X_114_122, X_114_125, X_114_128, X_114_130_t, X_114_130_f, X_114_130, X_114_133, X_114_135, X_114_138, X_114_140, fixp_i, fixp_n, ek]
  conv => lhs; rw [X_114_40]
  conv => lhs; simp (disch := omega) only [X_114_0, X_114_1_t, X_114_1_f, X_114_1, X_114_4, X_114_5, X_114_7_t, X_114_7_f, X_114_7, X_114_10, X_114_11, X_114_14, X_114_17, X_114_18, X_114_19, X_114_20, X_114_21_t, X_114_21_f, X_114_21, X_114_24, X_114_25, X_114_28, X_114_29, X_114_31, X_114_32, X_114_34, X_114_35, X_114_37, X_114_38, X_114_42, X_114_43_t, X_114_43_f, X_114_43, X_114_46, X_114_48, X_114_50_t, X_114_50_f, X_114_50, X_114_53, X_114_54, X_114_57, X_114_59, X_114_62_t, X_114_62_f, X_114_62, X_114_65, X_114_66, X_114_69, X_114_71, X_114_74, X_114_75, X_114_76, X_114_77, X_114_78, X_114_80, X_114_82, X_114_85, X_114_87, X_114_88, X_114_91, X_114_93, X_114_96, X_114_98_t, X_114_98_f, X_114_98, X_114_101, X_114_103, X_114_105, X_114_108, X_114_110, X_114_113, X_114_115, X_114_117, X_114_120, X_114_122, X_114_125, X_114_128, X_114_130_t, X_114_130_f, X_114_130, X_114_133, X_114_135, X_114_138, X_114_140, r1_0_3, cb, S_mk_n, S_tb_n, ek, c2, S_max, pushR_some, pushR_none, fixp_i, fixp_n]
  rfl

theorem L_lbt_f {k d : Nat} {f : TF} {N low high : Int} (ih : LBT k) (hd : 6 + k ≤ d) (hN : N + 1 + (k : Int) ≤ 900000) (hk : k ≤ 6) (hb0 : (-1000 ≤ low ∧ low ≤ 1000) ∧ -1000 ≤ high ∧ high ≤ 1000) (hf : tyOk f N) : ∀ (n j : Nat) (least most b : Int) (h : AH) (l8 : Option AV), j + n = 4 → RR false low high least most b → ((-1000 ≤ least ∧ least ≤ 1000) ∧ -1000 ≤ most ∧ most ≤ 1000) → h 1000 = rgT → TR h 10 f → ∃ (v : Int) (h' : AH), (∀ Q, wp d 114 40 [some (.inr (.inr (some 0))), some (.inl ((k + 1 : Nat) : Int)), some (.inl low), some (.inl high), some (.inl 0), some (.inl least), some (.inl most), some (.inl (j : Int)), l8] [] G1 h Q = Q (some (.inl v)) G1 h') ∧ Rv low high v (fo false (mm k) f n j b) ∧ (-1000 ≤ v ∧ v ≤ 1000) ∧ TR h' 10 f ∧ (∀ a, (a < 10 ∨ 16 ≤ a) → h' a = h a) := by
  have g0 := g1_0
  have t10 : isToy 10 := Or.inr (Or.inl rfl)
  have s10 := toy_s t10
  have ek : ((k + 1 : Nat) : Int) - 1 = (k : Int) := by omega
  intro n
  induction n with
  | zero =>
    intro j least most b h l8 hj hR hb eR hT
    obtain rfl : j = 4 := by omega
    refine ⟨most, h, fun Q => ?_, ?_, by omega, hT, fun _ _ => rfl⟩
    · simp (disch := omega) only [X_114_40, X_114_0, X_114_1_t, X_114_1_f, X_114_1, X_114_4, X_114_5, X_114_7_t, X_114_7_f, X_114_7, X_114_10, X_114_11, X_114_14, X_114_17, X_114_18, X_114_19, X_114_20, X_114_21_t, X_114_21_f, X_114_21, X_114_24, X_114_25, X_114_28, X_114_29, X_114_31, X_114_32, X_114_34, X_114_35, X_114_37, X_114_38, X_114_42, X_114_43_t, X_114_43_f, X_114_43, X_114_46, X_114_48, X_114_50_t, X_114_50_f, X_114_50, X_114_53, X_114_54, X_114_57, X_114_59, X_114_62_t, X_114_62_f, X_114_62, X_114_65, X_114_66, X_114_69, X_114_71, X_114_74, X_114_75, X_114_76, X_114_77, X_114_78, X_114_80, X_114_82, X_114_85, X_114_87, X_114_88, X_114_91, X_114_93, X_114_96, X_114_98_t, X_114_98_f, X_114_98, X_114_101, X_114_103, X_114_105, X_114_108, X_114_110, X_114_113, X_114_115, X_114_117, X_114_120, X_114_122, X_114_125, X_114_128, X_114_130_t, X_114_130_f, X_114_130, X_114_133, X_114_135, X_114_138, X_114_140]
    · simp only [RR] at hR
      unfold Rv
      simp only [fo]
      omega
  | succ n ihn =>
    intro j least most b h l8 hj hR hb eR hT
    simp only [RR] at hR
    by_cases hlt : least < most
    case neg =>
      refine ⟨most, h, fun Q => ?_, ?_, by omega, hT, fun _ _ => rfl⟩
      · simp (disch := omega) only [X_114_40, X_114_0, X_114_1_t, X_114_1_f, X_114_1, X_114_4, X_114_5, X_114_7_t, X_114_7_f, X_114_7, X_114_10, X_114_11, X_114_14, X_114_17, X_114_18, X_114_19, X_114_20, X_114_21_t, X_114_21_f, X_114_21, X_114_24, X_114_25, X_114_28, X_114_29, X_114_31, X_114_32, X_114_34, X_114_35, X_114_37, X_114_38, X_114_42, X_114_43_t, X_114_43_f, X_114_43, X_114_46, X_114_48, X_114_50_t, X_114_50_f, X_114_50, X_114_53, X_114_54, X_114_57, X_114_59, X_114_62_t, X_114_62_f, X_114_62, X_114_65, X_114_66, X_114_69, X_114_71, X_114_74, X_114_75, X_114_76, X_114_77, X_114_78, X_114_80, X_114_82, X_114_85, X_114_87, X_114_88, X_114_91, X_114_93, X_114_96, X_114_98_t, X_114_98_f, X_114_98, X_114_101, X_114_103, X_114_105, X_114_108, X_114_110, X_114_113, X_114_115, X_114_117, X_114_120, X_114_122, X_114_125, X_114_128, X_114_130_t, X_114_130_f, X_114_130, X_114_133, X_114_135, X_114_138, X_114_140]
      · have q := fo_f (D := mm k) (f := f) (n := n + 1) (j := j) (b := b)
        unfold Rv
        omega
    have gj : 0 ≤ (j : Int) ∧ (j : Int) < 4 := by omega
    have cb : ∀ Q, call d 24 [.inr (.inr (some 10)), .inl (j : Int)] G1 h Q = if barM f (j : Int) then Q (some (.inl 1)) G1 h else Q (some (.inl 0)) G1 h := fun Q => S_bars (by omega) t10 gj hT hf.1 hf.2.2.1
    by_cases hbar : barM f (j : Int)
    · obtain ⟨v, h', c2, r2⟩ := ihn (j + 1) least most b h l8 (by omega) (by simp only [RR]; exact hR) hb eR hT
      have e : fo false (mm k) f (n + 1) j b = fo false (mm k) f n (j + 1) b := by
        conv => lhs; unfold fo opt; rw [if_pos hbar]
      rw [e]
      refine ⟨v, h', fun Q => ?_, r2⟩
      refine Eq.trans ?_ (c2 Q)
      conv => lhs; rw [X_114_40]
      conv => lhs; simp (disch := omega) only [X_114_0, X_114_1_t, X_114_1_f, X_114_1, X_114_4, X_114_5, X_114_7_t, X_114_7_f, X_114_7, X_114_10, X_114_11, X_114_14, X_114_17, X_114_18, X_114_19, X_114_20, X_114_21_t, X_114_21_f, X_114_21, X_114_24, X_114_25, X_114_28, X_114_29, X_114_31, X_114_32, X_114_34, X_114_35, X_114_37, X_114_38, X_114_42, X_114_43_t, X_114_43_f, X_114_43, X_114_46, X_114_48, X_114_50_t, X_114_50_f, X_114_50, X_114_53, X_114_54, X_114_57, X_114_59, X_114_62_t, X_114_62_f, X_114_62, X_114_65, X_114_66, X_114_69, X_114_71, X_114_74, X_114_75, X_114_76, X_114_77, X_114_78, X_114_80, X_114_82, X_114_85, X_114_87, X_114_88, X_114_91, X_114_93, X_114_96, X_114_98_t, X_114_98_f, X_114_98, X_114_101, X_114_103, X_114_105, X_114_108, X_114_110, X_114_113, X_114_115, X_114_117, X_114_120, X_114_122, X_114_125, X_114_128, X_114_130_t, X_114_130_f, X_114_130, X_114_133, X_114_135, X_114_138, X_114_140, r1_0_3, cb, if_pos hbar, pushR_some, fixp_i, natS]
    · obtain ⟨h1, c1, T1, F1⟩ := S_makeMove (d := d) (t := 10) (m := (j : Int)) (h := h) (f := f) (by omega) t10 eR gj hT hf.1
      have fo1 : ∀ a, (a < 10 ∨ 16 ≤ a) → h1 a = h a := fun a ha => F1.1 a (by omega)
      obtain ⟨v, h2, c2, R2, B2, T2, F2⟩ := ih d (mvF f (j : Int)) (N + 1) least most h1 (by omega) hN hlt (by omega) (by omega) (by rw [fo1 _ (by omega), eR]) T1 (mvF_ty gj hf)
      obtain ⟨h3, c3, T3, F3⟩ := S_takeBack (d := d) (t := 10) (m := (j : Int)) (h := h2) (g := f) (by omega) t10 (by rw [F2 _ (by omega), fo1 _ (by omega), eR]) gj T2 hf.1
      have fr : ∀ a, (a < 10 ∨ 16 ≤ a) → h3 a = h a := fun a ha => by rw [F3.1 a (by omega), F2 a ha, fo1 a ha]
      have e : fo false (mm k) f (n + 1) j b = fo false (mm k) f n (j + 1) (stp false b (mm k (mvF f (j : Int)))) := by
        conv => lhs; unfold fo opt; rw [if_neg hbar]
      have bm := mm_b (k := k) (mvF_ty gj hf) hN
      obtain ⟨u, h', c4, r4, B4, T4, F4⟩ := ihn (j + 1) least (if v < most then v else most) (stp false b (mm k (mvF f (j : Int)))) h3 (some (.inl v)) (by omega) (by
        simp only [RR, stp]
        unfold Rv at R2
        generalize mm k (mvF f (j : Int)) = x at *
        refine ⟨hR.1, ?_⟩
        split <;> split <;> omega) (by constructor <;> (try split) <;> omega) (by rw [fr _ (by omega), eR]) T3
      rw [e]
      refine ⟨u, h', fun Q => ?_, r4, B4, T4, fun a ha => by rw [F4 a ha, fr a ha]⟩
      refine Eq.trans ?_ (c4 Q)
      conv => lhs; rw [X_114_40]
      conv => lhs; simp (disch := omega) only [X_114_0, X_114_1_t, X_114_1_f, X_114_1, X_114_4, X_114_5, X_114_7_t, X_114_7_f, X_114_7, X_114_10, X_114_11, X_114_14, X_114_17, X_114_18, X_114_19, X_114_20, X_114_21_t, X_114_21_f, X_114_21, X_114_24, X_114_25, X_114_28, X_114_29, X_114_31, X_114_32, X_114_34, X_114_35, X_114_37, X_114_38, X_114_42, X_114_43_t, X_114_43_f, X_114_43, X_114_46, X_114_48, X_114_50_t, X_114_50_f, X_114_50, X_114_53, X_114_54, X_114_57, X_114_59, X_114_62_t, X_114_62_f, X_114_62, X_114_65, X_114_66, X_114_69, X_114_71, X_114_74, X_114_75, X_114_76, X_114_77, X_114_78, X_114_80, X_114_82, X_114_85, X_114_87, X_114_88, X_114_91, X_114_93, X_114_96, X_114_98_t, X_114_98_f, X_114_98, X_114_101, X_114_103, X_114_105, X_114_108, X_114_110, X_114_113, X_114_115, X_114_117, X_114_120, X_114_122, X_114_125, X_114_128, X_114_130_t, X_114_130_f, X_114_130, X_114_133, X_114_135, X_114_138, X_114_140, r1_0_3, cb, if_neg hbar, c1, ek, c2, c3, S_min, pushR_some, pushR_none, fixp_i, natS]
theorem LBT_f {k : Nat} (hk : k ≤ 6) (hW : decide ((k + 1) % 2 = 0) = false) (ih : LBT k) : LBT (k + 1) ∨ 6 < k + 1 := by
  by_cases hk6 : 6 < k + 1
  · exact Or.inr hk6
  refine Or.inl ?_
  intro d f N low high h hd hN hlt hlo hhi eR hT hf
  obtain ⟨d, rfl, hd2⟩ := pos_of hd
  have g0 := g1_0
  have t10 : isToy 10 := Or.inr (Or.inl rfl)
  have s10 := toy_s t10
  have ek : ((k + 1 : Nat) : Int) - 1 = (k : Int) := by omega
  have hW2 := hW
  simp only [decide_eq_true_eq, decide_eq_false_iff_not] at hW2
  have cb : ∀ Q, call d 24 [.inr (.inr (some 10)), .inl (-1)] G1 h Q = Q (some (.inl 0)) G1 h := fun Q => S_bars_n (by omega) t10
  obtain ⟨v, h2, c2, R2, B2, T2, F2⟩ := ih d f N low high h (by omega) (by omega) hlt hlo hhi eR hT hf
  have bm := mm_b (k := k) hf (by omega)
  have least := low
  obtain ⟨u, h', c4, r4, B4, T4, F4⟩ := L_lbt_f (k := k) (d := d) (f := f) (N := N) (low := low) (high := high) ih (by omega) (by omega) hk (by omega) hf 4 0 low (if v < high then v else high) (mm k f) h2 (some (.inl v)) (by omega) (by
    simp only [RR]
    unfold Rv at R2
    refine ⟨trivial, ?_⟩
    split <;> omega) (by constructor <;> (try split) <;> omega) (by rw [F2 _ (by omega), eR]) T2
  rw [mm_s, stp_i bm, hW]
  refine ⟨u, h', fun Q => ?_, r4, B4, T4, fun a ha => by rw [F4 a ha, F2 a ha]⟩
  refine Eq.trans ?_ (c4 Q)
  rw [C_114]
  conv => lhs; simp (disch := omega) only [X_114_0, X_114_1_t, X_114_1_f, X_114_1, X_114_4, X_114_5, X_114_7_t, X_114_7_f, X_114_7, X_114_10, X_114_11, X_114_14, X_114_17, X_114_18, X_114_19, X_114_20, X_114_21_t, X_114_21_f, X_114_21, X_114_24, X_114_25, X_114_28, X_114_29, X_114_31, X_114_32, X_114_34, X_114_35, X_114_37, X_114_38, X_114_42, X_114_43_t, X_114_43_f, X_114_43, X_114_46, X_114_48, X_114_50_t, X_114_50_f, X_114_50, X_114_53, X_114_54, X_114_57, X_114_59, X_114_62_t, X_114_62_f, X_114_62, X_114_65, X_114_66, X_114_69, X_114_71, X_114_74, X_114_75, X_114_76, X_114_77, X_114_78, X_114_80, X_114_82, X_114_85, X_114_87, X_114_88, X_114_91, X_114_93, X_114_96, X_114_98_t, X_114_98_f, X_114_98, X_114_101, X_114_103, X_114_105, X_114_108, X_114_110, X_114_113, X_114_115, X_114_117, X_114_120, X_114_122, X_114_125, X_114_128, X_114_130_t, X_114_130_f, X_114_130, X_114_133, X_114_135, X_114_138, X_114_140, fixp_i, fixp_n, ek]
  conv => lhs; rw [X_114_40]
  conv => lhs; simp (disch := omega) only [X_114_0, X_114_1_t, X_114_1_f, X_114_1, X_114_4, X_114_5, X_114_7_t, X_114_7_f, X_114_7, X_114_10, X_114_11, X_114_14, X_114_17, X_114_18, X_114_19, X_114_20, X_114_21_t, X_114_21_f, X_114_21, X_114_24, X_114_25, X_114_28, X_114_29, X_114_31, X_114_32, X_114_34, X_114_35, X_114_37, X_114_38, X_114_42, X_114_43_t, X_114_43_f, X_114_43, X_114_46, X_114_48, X_114_50_t, X_114_50_f, X_114_50, X_114_53, X_114_54, X_114_57, X_114_59, X_114_62_t, X_114_62_f, X_114_62, X_114_65, X_114_66, X_114_69, X_114_71, X_114_74, X_114_75, X_114_76, X_114_77, X_114_78, X_114_80, X_114_82, X_114_85, X_114_87, X_114_88, X_114_91, X_114_93, X_114_96, X_114_98_t, X_114_98_f, X_114_98, X_114_101, X_114_103, X_114_105, X_114_108, X_114_110, X_114_113, X_114_115, X_114_117, X_114_120, X_114_122, X_114_125, X_114_128, X_114_130_t, X_114_130_f, X_114_130, X_114_133, X_114_135, X_114_138, X_114_140, r1_0_3, cb, S_mk_n, S_tb_n, ek, c2, S_min, pushR_some, pushR_none, fixp_i, fixp_n]
  rfl

theorem LBT_all : ∀ k, k ≤ 6 → LBT k
  | 0, _ => LBT_0
  | k + 1, h => by
    have ih := LBT_all k (by omega)
    cases hW : decide ((k + 1) % 2 = 0) with
    | true => exact (LBT_t (by omega) hW ih).resolve_right (by omega)
    | false => exact (LBT_f (by omega) hW ih).resolve_right (by omega)
