/-! 66: moves tried aside -/
def rdB (o : Option Nat) : Int := match o with
  | some _ => 1
  | none => 0
theorem S_reach {w : TF} {N : Int} (hN : N + 5 ≤ 900000) (hw : ∀ c, c < 14 → -1 ≤ w c ∧ w c ≤ 9) : ∀ (k d dep many : Nat) (f : TF) (h : AH), dep + k = many → many ≤ 5 → 5 + k ≤ d → h 1000 = rgT → (∀ c, c < 14 → h 19 c = w c) → TR h 10 f → tyOk f (N + (dep : Int)) → ∃ h', (∀ Q, call d 109 [.inr (.inr (some 0)), .inl (dep : Int), .inl (many : Int)] G1 h Q = Q (some (.inl (rdB (ds (fun g => picB g w) k f)))) G1 h') ∧ TR h' 10 f ∧ (∀ a, (a < 10 ∨ 16 ≤ a) → ¬ a = 20 → h' a = h a) ∧ (∀ j, j < dep → h' 20 j = h 20 j) ∧ (∀ c, ds (fun g => picB g w) k f = some c → ∀ j, j < k → h' 20 (dep + j) = dg c (k - 1 - j)) := by
  have g0 := g1_0
  have t10 : isToy 10 := Or.inr (Or.inl rfl)
  have s10 := toy_s t10
  have s19 := g1_19
  have s20 := g1_20
  intro k
  induction k with
  | zero =>
    intro d dep many f h hk hm hd eR e19 hT hf
    obtain ⟨d, rfl, hd2⟩ := pos_of hd
    have cs : ∀ Q, call d 20 [.inr (.inr (some 10)), .inr (.inr (some 19))] G1 h Q = if picB f w = true then Q (some (.inl 1)) G1 h else Q (some (.inl 0)) G1 h := fun Q => by
      rw [S_showsAs (N := N + (dep : Int)) (by omega) t10 hT hf (by omega) (fun c hc => by rw [e19 c hc]; exact hw c hc), picB_congr e19]
    refine ⟨h, fun Q => ?_, hT, fun _ _ _ => rfl, fun _ _ => rfl, fun c hc j hj => by omega⟩
    rw [C_109]
    by_cases hp : picB f w = true
    · have e : ds (fun g => picB g w) 0 f = some 0 := by unfold ds; rw [if_pos hp]
      rw [e]
      simp (disch := omega) only [X_109_0, X_109_1, X_109_2_t, X_109_2_f, X_109_2, X_109_5, X_109_6, X_109_7_t, X_109_7_f, X_109_7, X_109_10, X_109_11, X_109_14, X_109_15, X_109_18, X_109_21, X_109_22, X_109_23, X_109_25, X_109_26_t, X_109_26_f, X_109_26, X_109_29, X_109_30, X_109_33, X_109_34, X_109_37_t, X_109_37_f, X_109_37, X_109_40, X_109_41, X_109_44, X_109_45, X_109_46, X_109_47, X_109_48, X_109_51, X_109_52, X_109_55, X_109_56, X_109_57, X_109_58, X_109_59, X_109_60, X_109_63, X_109_65, X_109_66, X_109_69, X_109_70, X_109_73, X_109_75_t, X_109_75_f, X_109_75, X_109_78, X_109_79, X_109_80, X_109_83, X_109_86, X_109_87, r1_0_3, r1_0_6, cs, if_pos hp, pushR_some, rdB]
    · have e : ds (fun g => picB g w) 0 f = none := by unfold ds; rw [if_neg hp]
      rw [e]
      simp (disch := omega) only [X_109_0, X_109_1, X_109_2_t, X_109_2_f, X_109_2, X_109_5, X_109_6, X_109_7_t, X_109_7_f, X_109_7, X_109_10, X_109_11, X_109_14, X_109_15, X_109_18, X_109_21, X_109_22, X_109_23, X_109_25, X_109_26_t, X_109_26_f, X_109_26, X_109_29, X_109_30, X_109_33, X_109_34, X_109_37_t, X_109_37_f, X_109_37, X_109_40, X_109_41, X_109_44, X_109_45, X_109_46, X_109_47, X_109_48, X_109_51, X_109_52, X_109_55, X_109_56, X_109_57, X_109_58, X_109_59, X_109_60, X_109_63, X_109_65, X_109_66, X_109_69, X_109_70, X_109_73, X_109_75_t, X_109_75_f, X_109_75, X_109_78, X_109_79, X_109_80, X_109_83, X_109_86, X_109_87, r1_0_3, r1_0_6, cs, if_neg hp, pushR_some, rdB]
  | succ k ih =>
    intro d dep many f h hk hm hd eR e19 hT hf
    obtain ⟨d, rfl, hd2⟩ := pos_of hd
    have L : ∀ (n i : Nat) (h : AH) (l4 : Option AV), i + n = 4 → h 1000 = rgT → (∀ c, c < 14 → h 19 c = w c) → TR h 10 f → ∃ h', (∀ Q, wp d 109 24 [some (.inr (.inr (some 0))), some (.inl (dep : Int)), some (.inl (many : Int)), some (.inl (i : Int)), l4] [] G1 h Q = Q (some (.inl (rdB (dm (ds (fun g => picB g w) k) f (4 ^ k) n i)))) G1 h') ∧ TR h' 10 f ∧ (∀ a, (a < 10 ∨ 16 ≤ a) → ¬ a = 20 → h' a = h a) ∧ (∀ j, j < dep → h' 20 j = h 20 j) ∧ (∀ c, dm (ds (fun g => picB g w) k) f (4 ^ k) n i = some c → ∀ j, j < k + 1 → h' 20 (dep + j) = dg c (k - j)) := by
      intro n
      induction n with
      | zero =>
        intro i h l4 hi eR e19 hT
        obtain rfl : i = 4 := by omega
        refine ⟨h, fun Q => ?_, hT, fun _ _ _ => rfl, fun _ _ => rfl, fun c hc => absurd hc (by simp [dm])⟩
        simp (disch := omega) only [X_109_24, X_109_0, X_109_1, X_109_2_t, X_109_2_f, X_109_2, X_109_5, X_109_6, X_109_7_t, X_109_7_f, X_109_7, X_109_10, X_109_11, X_109_14, X_109_15, X_109_18, X_109_21, X_109_22, X_109_23, X_109_25, X_109_26_t, X_109_26_f, X_109_26, X_109_29, X_109_30, X_109_33, X_109_34, X_109_37_t, X_109_37_f, X_109_37, X_109_40, X_109_41, X_109_44, X_109_45, X_109_46, X_109_47, X_109_48, X_109_51, X_109_52, X_109_55, X_109_56, X_109_57, X_109_58, X_109_59, X_109_60, X_109_63, X_109_65, X_109_66, X_109_69, X_109_70, X_109_73, X_109_75_t, X_109_75_f, X_109_75, X_109_78, X_109_79, X_109_80, X_109_83, X_109_86, X_109_87, dm, rdB]
      | succ n ihn =>
        intro i h l4 hi eR e19 hT
        have gi : 0 ≤ (i : Int) ∧ (i : Int) < 4 := by omega
        have cb : ∀ Q, call d 24 [.inr (.inr (some 10)), .inl (i : Int)] G1 h Q = if barM f (i : Int) then Q (some (.inl 1)) G1 h else Q (some (.inl 0)) G1 h := fun Q => S_bars (by omega) t10 gi hT hf.1 hf.2.2.1
        by_cases hb : barM f (i : Int)
        · have e : dm (ds (fun g => picB g w) k) f (4 ^ k) (n + 1) i = dm (ds (fun g => picB g w) k) f (4 ^ k) n (i + 1) := by conv => lhs; unfold dm; rw [if_pos hb]
          rw [e]
          obtain ⟨h', c2, r2⟩ := ihn (i + 1) h l4 (by omega) eR e19 hT
          refine ⟨h', fun Q => ?_, r2⟩
          refine Eq.trans ?_ (c2 Q)
          conv => lhs; rw [X_109_24]
          conv => lhs; simp (disch := omega) only [X_109_0, X_109_1, X_109_2_t, X_109_2_f, X_109_2, X_109_5, X_109_6, X_109_7_t, X_109_7_f, X_109_7, X_109_10, X_109_11, X_109_14, X_109_15, X_109_18, X_109_21, X_109_22, X_109_23, X_109_25, X_109_26_t, X_109_26_f, X_109_26, X_109_29, X_109_30, X_109_33, X_109_34, X_109_37_t, X_109_37_f, X_109_37, X_109_40, X_109_41, X_109_44, X_109_45, X_109_46, X_109_47, X_109_48, X_109_51, X_109_52, X_109_55, X_109_56, X_109_57, X_109_58, X_109_59, X_109_60, X_109_63, X_109_65, X_109_66, X_109_69, X_109_70, X_109_73, X_109_75_t, X_109_75_f, X_109_75, X_109_78, X_109_79, X_109_80, X_109_83, X_109_86, X_109_87, r1_0_3, cb, if_pos hb, pushR_some, fixp_i, natS]
        · generalize eP : put h 20 dep (i : Int) = hp
          have po : ∀ a, ¬ a = 20 → hp a = h a := fun a z => by rw [← eP, put_row z]
          have p20 : hp 20 = putR (h 20) dep (i : Int) := by rw [← eP, put_set, setR_s]
          have Tp : TR hp 10 f := TR_keep hT (po _ (by omega)) (po _ (by omega)) (po _ (by omega)) (po _ (by omega)) (po _ (by omega)) (by rw [po _ (by omega)])
          obtain ⟨h1, c1, T1, F1⟩ := S_makeMove (d := d) (t := 10) (m := (i : Int)) (h := hp) (f := f) (by omega) t10 (by rw [po _ (by omega), eR]) gi Tp hf.1
          have fo : ∀ a, (a < 10 ∨ 16 ≤ a) → h1 a = hp a := fun a ha => F1.1 a (by omega)
          have ty1 : tyOk (mvF f (i : Int)) (N + ((dep + 1 : Nat) : Int)) := by
            have q := mvF_ty gi hf
            rw [show N + ((dep + 1 : Nat) : Int) = N + (dep : Int) + 1 by omega]
            exact q
          obtain ⟨h2, c2, T2, F2, J2, P2⟩ := ih d (dep + 1) many (mvF f (i : Int)) h1 (by omega) hm (by omega) (by rw [fo _ (by omega), po _ (by omega), eR]) (fun c hc => by rw [fo _ (by omega), po _ (by omega), e19 c hc]) T1 ty1
          obtain ⟨h3, c3, T3, F3⟩ := S_takeBack (d := d) (t := 10) (m := (i : Int)) (h := h2) (g := f) (by omega) t10 (by rw [F2 _ (by omega) (by omega), fo _ (by omega), po _ (by omega), eR]) gi T2 hf.1
          have fo3 : ∀ a, (a < 10 ∨ 16 ≤ a) → h3 a = h2 a := fun a ha => F3.1 a (by omega)
          have fr : ∀ a, (a < 10 ∨ 16 ≤ a) → ¬ a = 20 → h3 a = h a := fun a a1 a2 => by rw [fo3 a a1, F2 a a1 a2, fo a a1, po a a2]
          have fj : ∀ j, j < dep + 1 → h3 20 j = putR (h 20) dep (i : Int) j := fun j hj => by rw [fo3 _ (by omega), J2 j hj, fo _ (by omega), p20]
          cases hD : ds (fun g => picB g w) k (mvF f (i : Int)) with
          | some c0 =>
            have e : dm (ds (fun g => picB g w) k) f (4 ^ k) (n + 1) i = some (i * 4 ^ k + c0) := by unfold dm; rw [if_neg hb, hD]
            rw [e]
            rw [hD] at c2
            have b0 := ((ds_ok k (mvF f (i : Int))).1 c0 hD).1
            refine ⟨h3, fun Q => ?_, T3, fr, fun j hj => by rw [fj j (by omega), putR_n (by omega)], fun c hc j hj => ?_⟩
            · conv => lhs; rw [X_109_24]
              simp (disch := omega) only [X_109_0, X_109_1, X_109_2_t, X_109_2_f, X_109_2, X_109_5, X_109_6, X_109_7_t, X_109_7_f, X_109_7, X_109_10, X_109_11, X_109_14, X_109_15, X_109_18, X_109_21, X_109_22, X_109_23, X_109_25, X_109_26_t, X_109_26_f, X_109_26, X_109_29, X_109_30, X_109_33, X_109_34, X_109_37_t, X_109_37_f, X_109_37, X_109_40, X_109_41, X_109_44, X_109_45, X_109_46, X_109_47, X_109_48, X_109_51, X_109_52, X_109_55, X_109_56, X_109_57, X_109_58, X_109_59, X_109_60, X_109_63, X_109_65, X_109_66, X_109_69, X_109_70, X_109_73, X_109_75_t, X_109_75_f, X_109_75, X_109_78, X_109_79, X_109_80, X_109_83, X_109_86, X_109_87, r1_0_3, r1_0_7, cb, if_neg hb, Int.toNat_natCast, eP, c1, c2, c3, natS, rdB, pushR_some, pushR_none, fixp_i]
            · injection hc with hc
              subst hc
              by_cases z : j = 0
              · subst z
                rw [Nat.add_zero, fj dep (by omega), putR_s, Nat.sub_zero, dg_hi (by omega) b0]
              · have q := P2 c0 hD (j - 1) (by omega)
                rw [show dep + 1 + (j - 1) = dep + j by omega, show k - 1 - (j - 1) = k - j by omega] at q
                rw [fo3 _ (by omega), q, dg_lo (by omega)]
          | none =>
            have e : dm (ds (fun g => picB g w) k) f (4 ^ k) (n + 1) i = dm (ds (fun g => picB g w) k) f (4 ^ k) n (i + 1) := by conv => lhs; unfold dm; rw [if_neg hb, hD]
            rw [e]
            rw [hD] at c2
            obtain ⟨h', c4, T4, F4, J4, P4⟩ := ihn (i + 1) h3 (some (.inl 0)) (by omega) (by rw [fr _ (by omega) (by omega), eR]) (fun c hc => by rw [fr _ (by omega) (by omega), e19 c hc]) T3
            refine ⟨h', fun Q => ?_, T4, fun a a1 a2 => by rw [F4 a a1 a2, fr a a1 a2], fun j hj => by rw [J4 j hj, fj j (by omega), putR_n (by omega)], P4⟩
            refine Eq.trans ?_ (c4 Q)
            conv => lhs; rw [X_109_24]
            conv => lhs; simp (disch := omega) only [X_109_0, X_109_1, X_109_2_t, X_109_2_f, X_109_2, X_109_5, X_109_6, X_109_7_t, X_109_7_f, X_109_7, X_109_10, X_109_11, X_109_14, X_109_15, X_109_18, X_109_21, X_109_22, X_109_23, X_109_25, X_109_26_t, X_109_26_f, X_109_26, X_109_29, X_109_30, X_109_33, X_109_34, X_109_37_t, X_109_37_f, X_109_37, X_109_40, X_109_41, X_109_44, X_109_45, X_109_46, X_109_47, X_109_48, X_109_51, X_109_52, X_109_55, X_109_56, X_109_57, X_109_58, X_109_59, X_109_60, X_109_63, X_109_65, X_109_66, X_109_69, X_109_70, X_109_73, X_109_75_t, X_109_75_f, X_109_75, X_109_78, X_109_79, X_109_80, X_109_83, X_109_86, X_109_87, r1_0_3, r1_0_7, cb, if_neg hb, Int.toNat_natCast, eP, c1, c2, c3, natS, rdB, pushR_some, pushR_none, fixp_i]
    obtain ⟨h', c2, T2, F2, J2, P2⟩ := L 4 0 h none (by omega) eR e19 hT
    refine ⟨h', fun Q => ?_, T2, F2, J2, fun c hc j hj => ?_⟩
    · rw [C_109]
      simp (disch := omega) only [X_109_0, X_109_1, X_109_2_t, X_109_2_f, X_109_2, X_109_5, X_109_6, X_109_7_t, X_109_7_f, X_109_7, X_109_10, X_109_11, X_109_14, X_109_15, X_109_18, X_109_21, X_109_22, X_109_23, X_109_25, X_109_26_t, X_109_26_f, X_109_26, X_109_29, X_109_30, X_109_33, X_109_34, X_109_37_t, X_109_37_f, X_109_37, X_109_40, X_109_41, X_109_44, X_109_45, X_109_46, X_109_47, X_109_48, X_109_51, X_109_52, X_109_55, X_109_56, X_109_57, X_109_58, X_109_59, X_109_60, X_109_63, X_109_65, X_109_66, X_109_69, X_109_70, X_109_73, X_109_75_t, X_109_75_f, X_109_75, X_109_78, X_109_79, X_109_80, X_109_83, X_109_86, X_109_87, fixp_i]
      exact c2 Q
    · rw [P2 c hc j hj, show k + 1 - 1 - j = k - j by omega]
