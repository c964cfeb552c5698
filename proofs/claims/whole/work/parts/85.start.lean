/-! 85: the law from its start; jumps -/
theorem runD_dep {F : Nat} : ∀ (d j : Nat) (as : List AV) (G : AG) (h : AH) (o : RS), runD F d j as G h = some o → runD F (d + 1) j as G h = some o := by
  intro d
  induction d with
  | zero => intro j as G h o e; exact absurd e (by simp [runD])
  | succ d ih =>
    intro j as G h o e
    simp only [runD] at e
    split at e
    · rename_i hl
      show (if (lay as).length ≤ P_l j then run1 (runD F (d + 1)) F j 0 (ini j as) [] G h else none) = some o
      rw [if_pos hl]
      exact run1_mono ih F F (Nat.le_refl _) j 0 _ _ G h o e
    · exact absurd e (by simp)
theorem call_dep {d j : Nat} {as : List AV} {G : AG} {h : AH} {Q : Option AV → AG → AH → Prop} (c : call d j as G h Q) : call (d + 1) j as G h Q := by
  obtain ⟨F, r, G', h', e, q⟩ := c
  exact ⟨F, r, G', h', runD_dep d j as G h (r, G', h') e, q⟩
theorem SCR_0 {L : Nat} {xs : Nat → Int32} (hL : L ≤ 3072) : SCR L (h01 L xs) := by
  obtain ⟨-, a2, a3⟩ := h01_s (L := L) (xs := xs)
  unfold SCR
  rw [a2, a3]
  refine ⟨rfl, hL, fun j => ?_⟩
  have h1 := Int32.le_toInt (xs j)
  have h2 := Int32.toInt_lt (xs j)
  show -2147483648 ≤ (xs j).toInt ∧ (xs j).toInt < 2147483648
  omega
theorem gN_00 : gN ([], []) = 0 := rfl
theorem mk_0 : mk ([], []) (6, 13) (List.replicate 13 none) = GA0 := by decide +kernel
theorem mk_5 : mk GA4 (7, 20) (List.replicate 20 none) = GA5 := by decide +kernel
set_option maxRecDepth 100000 in
theorem law_31 {L : Nat} {xs : Nat → Int32} (hL : L ≤ 3072) : call 31 211 [.inr (.inr (some 1001))] ([], []) (h00 L xs) Q0 := by
  have q : wp 30 211 18 [some (.inr (.inr (some 1001))), some (.inr (.inr (some 0))), some (.inr (.inr (some 63))), some (.inl ((6 * 0 : Nat) : Int))] [] G1 (h01 L xs) Q0 := LAW 512 0 (h01 L xs) (by omega) INV_0 (SCR_0 hL)
  have tc : ∀ (h : AH) (Q : Option AV → AG → AH → Prop), call 30 38 [.inr (.inr (some 0))] GA0 h Q = Q none GA4 (HA4 (HA3 (HA2 (HA1 h)))) := fun h Q => T_c (d := 26)
  have tm : ∀ (h : AH) (Q : Option AV → AG → AH → Prop), call 30 118 [.inr (.inr (some 63))] GA5 h Q = Q none G1 (HA5 h) := fun h Q => T_5 (d := 26)
  rw [C_211]
  simp (disch := first | omega | decide +kernel) only [X_211_0, X_211_3, X_211_4, X_211_7, X_211_8, X_211_11, X_211_12, X_211_15, X_211_16, X_211_17, gN_00, mk_0, tc, gN_GA4, mk_5, tm, pushR_none, fixp_n, fixp_r, fixp_i]
  exact q
theorem law_40 {L : Nat} {xs : Nat → Int32} (hL : L ≤ 3072) : call 40 211 [.inr (.inr (some 1001))] ([], []) (h00 L xs) (fun r G' _ => r = some (.inl 1) ∧ gN G' ≤ 600000 ∧ gZ G' ≤ 7302250) :=
  call_dep (call_dep (call_dep (call_dep (call_dep (call_dep (call_dep (call_dep (call_dep (law_31 hL)))))))))
def hasB (pc : Nat) (ins : Instr) : Bool := match ins with
  | .ifCond _ off => decide (0 ≤ (pc : Int) + off)
  | .if_icmp _ off => decide (0 ≤ (pc : Int) + off)
  | _ => true
theorem hasB_J {pc : Nat} {ins : Instr} (h : hasB pc ins = true) : hasJ pc ins := by
  unfold hasB at h
  unfold hasJ
  split
  · rw [decide_eq_true_eq] at h
    exact ⟨((pc : Int) + _).toNat, (Int.toNat_of_nonneg h).symm⟩
  · rw [decide_eq_true_eq] at h
    exact ⟨((pc : Int) + _).toNat, (Int.toNat_of_nonneg h).symm⟩
  · trivial
theorem hj_b : ((List.range 212).all (fun k => (P_c k).all (fun q => hasB q.1 q.2.1))) = true := by decide +kernel
theorem hj_all : ∀ k, k < 212 → ∀ q ∈ P_c k, hasJ q.1 q.2.1 := fun k hk q hq => hasB_J (List.all_eq_true.mp (List.all_eq_true.mp hj_b k (List.mem_range.mpr hk)) q hq)
