/-! 57: moves made aside -/
/-- how many of the moves g i .. are made, and the row behind them -/
def rnK (g : TF) : Nat → Nat → TF → Nat
  | 0, i, _ => i
  | m + 1, i, f => if barM f (g i) then i else rnK g m (i + 1) (mvF f (g i))
def rnT (g : TF) : Nat → Nat → TF → TF
  | 0, _, f => f
  | m + 1, i, f => if barM f (g i) then f else rnT g m (i + 1) (mvF f (g i))
theorem L_mma {d r L : Nat} {g : TF} (hd : 4 ≤ d) (hr : r < 6) (hL : L ≤ 40) (hg : ∀ k, k < L → 0 ≤ g k ∧ g k < 4) : ∀ (m i : Nat) (f : TF) (N : Int) (h : AH), i + m = L → h (22 + 2 * r) 2 = (L : Int) → (∀ k, k < L → h (23 + 2 * r) k = g k) → h 1000 = rgT → TR h 10 f → tyOk f N → ∃ h', (∀ Q, wp d 106 2 [some (.inr (.inr (some 0))), some (.inr (.inr (some (22 + 2 * r)))), some (.inl (i : Int))] [] G1 h Q = Q (some (.inl (rnK g m i f : Int))) G1 h') ∧ TR h' 10 (rnT g m i f) ∧ (∀ a, (a < 10 ∨ 16 ≤ a) → h' a = h a) ∧ (∀ k, ¬ k = 6 → h' 10 k = h 10 k) := by
  have g0 := g1_0
  have hR := rows_r hr
  have hw := hR.2
  have hs := rw_s hw
  have hrw := rwL_r hr
  have t10 : isToy 10 := Or.inr (Or.inl rfl)
  have s10 := toy_s t10
  intro m
  induction m with
  | zero =>
    intro i f N h hi e1 e2 eR hT hf
    obtain rfl : i = L := by omega
    refine ⟨h, fun Q => ?_, hT, fun _ _ => rfl, fun _ _ => rfl⟩
    simp (disch := omega) only [X_106_2, X_106_0, X_106_1, X_106_3, X_106_4, X_106_7_t, X_106_7_f, X_106_7, X_106_10, X_106_11, X_106_14, X_106_15, X_106_16, X_106_19, X_106_22_t, X_106_22_f, X_106_22, X_106_25, X_106_26, X_106_27, X_106_28, X_106_31, X_106_32, X_106_33, X_106_36, X_106_39, X_106_42, X_106_45, X_106_46, X_106_49, e1]
    rfl
  | succ m ih =>
    intro i f N h hi e1 e2 eR hT hf
    have gi := hg i (by omega)
    have q1 : h (22 + 2 * r + 1) i = g i := by rw [q23]; exact e2 i (by omega)
    have cb : ∀ Q, call d 24 [.inr (.inr (some 10)), .inl (g i)] G1 h Q = if barM f (g i) then Q (some (.inl 1)) G1 h else Q (some (.inl 0)) G1 h := fun Q => S_bars hd t10 gi hT hf.1 hf.2.2.1
    by_cases hb : barM f (g i)
    · refine ⟨h, fun Q => ?_, by unfold rnT; rw [if_pos hb]; exact hT, fun _ _ => rfl, fun _ _ => rfl⟩
      unfold rnK
      rw [if_pos hb]
      rw [X_106_2]
      simp (disch := omega) only [X_106_0, X_106_1, X_106_3, X_106_4, X_106_7_t, X_106_7_f, X_106_7, X_106_10, X_106_11, X_106_14, X_106_15, X_106_16, X_106_19, X_106_22_t, X_106_22_f, X_106_22, X_106_25, X_106_26, X_106_27, X_106_28, X_106_31, X_106_32, X_106_33, X_106_36, X_106_39, X_106_42, X_106_45, X_106_46, X_106_49, e1, r1_0_3, S_get, Int.toNat_natCast, q1, cb, if_pos hb, pushR_some]
    · obtain ⟨h1, c1, T1, F1⟩ := S_makeMove (d := d) (t := 10) (m := g i) (h := h) (f := f) (by omega) t10 eR gi hT hf.1
      have fo : ∀ a, (a < 10 ∨ 16 ≤ a) → h1 a = h a := fun a ha => F1.1 a (by omega)
      obtain ⟨h', c2, T2, F2, F3⟩ := ih (i + 1) (mvF f (g i)) (N + 1) h1 (by omega) (by rw [fo _ (by omega), e1]) (fun k hk => by rw [fo _ (by omega), e2 k hk]) (by rw [fo _ (by omega), eR]) T1 (mvF_ty gi hf)
      refine ⟨h', fun Q => ?_, by unfold rnT; rw [if_neg hb]; exact T2, fun a ha => by rw [F2 a ha, fo a ha], fun k hk => by rw [F3 k hk, F1.2 k hk]⟩
      unfold rnK
      rw [if_neg hb]
      refine Eq.trans ?_ (c2 Q)
      conv => lhs; rw [X_106_2]
      conv => lhs; simp (disch := omega) only [X_106_0, X_106_1, X_106_3, X_106_4, X_106_7_t, X_106_7_f, X_106_7, X_106_10, X_106_11, X_106_14, X_106_15, X_106_16, X_106_19, X_106_22_t, X_106_22_f, X_106_22, X_106_25, X_106_26, X_106_27, X_106_28, X_106_31, X_106_32, X_106_33, X_106_36, X_106_39, X_106_42, X_106_45, X_106_46, X_106_49, e1, r1_0_3, S_get, Int.toNat_natCast, q1, cb, if_neg hb, c1, pushR_some, pushR_none, fixp_i, fixp_r, natS]
