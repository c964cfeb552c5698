/-! 54: lots -/
def lotN (it : Int) : Int := it * 48271 % 2147483647
def xLot (f : TF) (it : Int) : Int := if it / 8 % 8 = 7 then (if it % 14 = it / 64 % 14 then -1 else 4 + 14 * (it % 14) + it / 64 % 14) else if barM f (it % 4) then -1 else it % 4
def ltF : Nat → TF → Int → TF
  | 0, f, _ => f
  | n + 1, f, it => ltF n (ddF f (cd (xLot f (lotN it)))) (lotN it)
theorem xLot_ok {f : TF} {it : Int} (h : 0 ≤ it) : xOk (xLot f it) := by
  unfold xOk xLot
  (repeat' split) <;> omega
theorem lotN_bd {it : Int} : 0 ≤ lotN it ∧ lotN it < 2147483647 := by unfold lotN; omega
theorem S_exDeedI {d : Nat} {x y : Int} {G : AG} {h : AH} {Q : Option AV → AG → AH → Prop} (hd : 1 ≤ d) : call d 104 [.inl x, .inl y] G h Q = Q (some (.inl (4 + 14 * x + y))) G h := by
  obtain ⟨d, rfl, hd2⟩ := pos_of hd
  rw [C_104]
  simp (disch := omega) only [X_104_0, X_104_1, X_104_3, X_104_4, X_104_5, X_104_6, X_104_7, X_104_8]
theorem S_deedByLot {d : Nat} {f : TF} {it N : Int} {h : AH} {Q : Option AV → AG → AH → Prop} (hd : 5 ≤ d) (hi : 0 ≤ it ∧ it < 2147483647) (hT : TR h 3 f) (hf : tyOk f N) : call d 105 [.inr (.inr (some 0)), .inl it] G1 h Q = Q (some (.inl (xLot f it))) G1 h := by
  obtain ⟨d, rfl, hd2⟩ := pos_of hd
  have g0 := g1_0
  have g3 := g1_3
  have t3 : isToy 3 := Or.inl rfl
  have cb : ∀ Q, call d 24 [.inr (.inr (some 3)), .inl (it % 4)] G1 h Q = if barM f (it % 4) then Q (some (.inl 1)) G1 h else Q (some (.inl 0)) G1 h := fun Q => S_bars hd2 t3 (by omega) hT hf.1 hf.2.2.1
  rw [C_105]
  unfold xLot
  by_cases e1 : it / 8 % 8 = 7
  · rw [if_pos e1]
    by_cases e2 : it % 14 = it / 64 % 14
    · rw [if_pos e2]
      simp (disch := omega) only [X_105_0, X_105_1, X_105_3, X_105_4, X_105_6, X_105_7, X_105_9_t, X_105_9_f, X_105_9, X_105_12, X_105_13, X_105_15, X_105_16, X_105_17, X_105_18, X_105_20, X_105_21, X_105_23, X_105_24, X_105_25, X_105_26, X_105_27_t, X_105_27_f, X_105_27, X_105_30, X_105_31, X_105_34, X_105_35, X_105_36, X_105_39, X_105_40, X_105_41, X_105_42, X_105_43, X_105_44, X_105_45, X_105_48, X_105_49, X_105_52_t, X_105_52_f, X_105_52, X_105_55, X_105_56, X_105_59, X_105_60, fixp_i, fixp_r, fixp_n]
    · rw [if_neg e2]
      simp (disch := omega) only [X_105_0, X_105_1, X_105_3, X_105_4, X_105_6, X_105_7, X_105_9_t, X_105_9_f, X_105_9, X_105_12, X_105_13, X_105_15, X_105_16, X_105_17, X_105_18, X_105_20, X_105_21, X_105_23, X_105_24, X_105_25, X_105_26, X_105_27_t, X_105_27_f, X_105_27, X_105_30, X_105_31, X_105_34, X_105_35, X_105_36, X_105_39, X_105_40, X_105_41, X_105_42, X_105_43, X_105_44, X_105_45, X_105_48, X_105_49, X_105_52_t, X_105_52_f, X_105_52, X_105_55, X_105_56, X_105_59, X_105_60, fixp_i, fixp_r, fixp_n, S_exDeedI, pushR_some]
  · rw [if_neg e1]
    by_cases e2 : barM f (it % 4)
    · rw [if_pos e2]
      simp (disch := omega) only [X_105_0, X_105_1, X_105_3, X_105_4, X_105_6, X_105_7, X_105_9_t, X_105_9_f, X_105_9, X_105_12, X_105_13, X_105_15, X_105_16, X_105_17, X_105_18, X_105_20, X_105_21, X_105_23, X_105_24, X_105_25, X_105_26, X_105_27_t, X_105_27_f, X_105_27, X_105_30, X_105_31, X_105_34, X_105_35, X_105_36, X_105_39, X_105_40, X_105_41, X_105_42, X_105_43, X_105_44, X_105_45, X_105_48, X_105_49, X_105_52_t, X_105_52_f, X_105_52, X_105_55, X_105_56, X_105_59, X_105_60, fixp_i, fixp_r, fixp_n, r1_0_2, cb, if_pos e2, pushR_some]
    · rw [if_neg e2]
      simp (disch := omega) only [X_105_0, X_105_1, X_105_3, X_105_4, X_105_6, X_105_7, X_105_9_t, X_105_9_f, X_105_9, X_105_12, X_105_13, X_105_15, X_105_16, X_105_17, X_105_18, X_105_20, X_105_21, X_105_23, X_105_24, X_105_25, X_105_26, X_105_27_t, X_105_27_f, X_105_27, X_105_30, X_105_31, X_105_34, X_105_35, X_105_36, X_105_39, X_105_40, X_105_41, X_105_42, X_105_43, X_105_44, X_105_45, X_105_48, X_105_49, X_105_52_t, X_105_52_f, X_105_52, X_105_55, X_105_56, X_105_59, X_105_60, fixp_i, fixp_r, fixp_n, r1_0_2, cb, if_neg e2, pushR_some]
theorem dd28 {f : TF} {y : Int} : ddF f y 28 = f 28 + 1 := putR_s
theorem dd_ty {f : TF} {x : Int} (hx : xOk x) (hn : 0 ≤ f 28 ∧ f 28 < 40) (hf : tyOk f (f 28)) : tyOk (ddF f (cd x)) (ddF f (cd x) 28) := by
  rw [dd28]
  exact tyOk_put (by omega) (tyOk_put (by omega) (dF_ty (cd_ok hx) hf))
theorem L_lots {d N : Nat} {s : Int} (hd : 5 ≤ d) (hN : N ≤ 20) : ∀ (n k : Nat) (it : Int) (h : AH) (f : TF), k + n = N → FUL h 3 f → h 1000 = rgT → h 3 8 = 1 → f 28 + (n : Int) ≤ 40 → (0 ≤ it ∧ it < 2147483647) → ∃ (h' : AH) (it' : Int), (∀ Q, wp d 69 62 [some (.inr (.inr (some 0))), some (.inl (N : Int)), some (.inl s), some (.inr (.inl it)), none, some (.inl (k : Int))] [] G1 h Q = wp d 69 62 [some (.inr (.inr (some 0))), some (.inl (N : Int)), some (.inl s), some (.inr (.inl it')), none, some (.inl (N : Int))] [] G1 h' Q) ∧ FUL h' 3 (ltF n f it) ∧ (∀ a, ¬ (3 ≤ a ∧ a < 10) → h' a = h a) ∧ h' 3 8 = 1 := by
  have g0 := g1_0
  have g3 := g1_3
  have t3 : isToy 3 := Or.inl rfl
  intro n
  induction n with
  | zero =>
    intro k it h f hk hF hR h8 hn hi
    obtain rfl : k = N := by omega
    exact ⟨h, it, fun Q => rfl, hF, fun _ _ => rfl, h8⟩
  | succ n ih =>
    intro k it h f hk hF hR h8 hn hi
    have bl := lotN_bd (it := it)
    have hx := xLot_ok (f := f) bl.1
    have b := hF.2.2.1
    have b1 := b.1
    have b2 := b.2.1
    obtain ⟨h1, c1, T1, F1, F2, F3, F4⟩ := S_doDeed (d := d) (t := 3) (x := xLot f (lotN it)) (h := h) (f := f) (by omega) t3 hR hx (by omega) hF.1 hF.2.1.1
    have HF := FUL_deed hF (by omega) hx T1 F2 F3
    obtain ⟨h', it', q1, q2, q3, q4⟩ := ih (k + 1) (lotN it) h1 (ddF f (cd (xLot f (lotN it)))) (by omega) HF (by rw [F1 1000 (by omega), hR]) (by rw [F4 8 (by omega) (by omega), h8]) (by rw [dd28]; omega) bl
    have cL : ∀ Q, call d 105 [.inr (.inr (some 0)), .inl (it * 48271 % 2147483647)] G1 h Q = Q (some (.inl (xLot f (lotN it)))) G1 h := fun Q => S_deedByLot hd bl hF.1 hF.2.1
    refine ⟨h', it', fun Q => Eq.trans ?_ (q1 Q), q2, fun a ha => by rw [q3 a ha, F1 a (by omega)], q4⟩
    conv => lhs; rw [X_69_62]
    conv => lhs; simp (disch := omega) only [X_69_0, X_69_1, X_69_4, X_69_7_t, X_69_7_f, X_69_7, X_69_10, X_69_12, X_69_13, X_69_14, X_69_15, X_69_17, X_69_20_t, X_69_20_f, X_69_20, X_69_23, X_69_24, X_69_25_t, X_69_25_f, X_69_25, X_69_28, X_69_29, X_69_30, X_69_33, X_69_34_t, X_69_34_f, X_69_34, X_69_37, X_69_38, X_69_39, X_69_40, X_69_43, X_69_46, X_69_47, X_69_48, X_69_50_t, X_69_50_f, X_69_50, X_69_53, X_69_55, X_69_56, X_69_57, X_69_58, X_69_59, X_69_60, X_69_64, X_69_65_t, X_69_65_f, X_69_65, X_69_68, X_69_69, X_69_72, X_69_73, X_69_76, X_69_77, X_69_78, X_69_79, X_69_82, X_69_83, X_69_84, X_69_85, X_69_88, X_69_91, X_69_94, X_69_97, X_69_98, X_69_101, X_69_102, X_69_105, r1_0_2, cL, c1, pushR_some, pushR_none, fixp_i, fixp_r, fixp_n, fixp_l2, natS]
    rfl
theorem cd_lot {f : TF} {it : Int} (h : 0 ≤ it) : cd (xLot f it) = if it / 8 % 8 < 7 then (if barM f (it % 4) then 4 else it % 4) else if it % 14 = it / 64 % 14 then 4 else 100 + 14 * (it % 14) + it / 64 % 14 := by
  unfold xLot
  by_cases e1 : it / 8 % 8 = 7
  · rw [if_pos e1, if_neg (show ¬ it / 8 % 8 < 7 by omega)]
    by_cases e2 : it % 14 = it / 64 % 14
    · rw [if_pos e2, if_pos e2]; rfl
    · rw [if_neg e2, if_neg e2]; unfold cd; rw [if_neg (by omega), if_neg (by omega)]; omega
  · rw [if_neg e1, if_pos (show it / 8 % 8 < 7 by omega)]
    by_cases e2 : barM f (it % 4)
    · rw [if_pos e2, if_pos e2]; rfl
    · rw [if_neg e2, if_neg e2]; unfold cd; rw [if_neg (by omega), if_pos (by omega)]
