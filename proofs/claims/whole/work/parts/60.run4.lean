/-! 60: run on both sides -/
theorem mvOk_iff {h : AH} {r L : Nat} (hL : h 68 r = (L : Int)) (hm : mvOk h r = true) : ∀ k, k < L → 0 ≤ h 67 (40 * r + k) ∧ h 67 (40 * r + k) < 4 := by
  unfold mvOk at hm
  rw [allF_iff, hL, Int.toNat_natCast] at hm
  intro k hk
  have q := hm k (by omega) (by omega)
  simp only [decide_eq_true_eq] at q
  omega
theorem rnK_le {g : TF} : ∀ {m i : Nat} {f : TF}, rnK g m i f ≤ i + m
  | 0, i, _ => Nat.le_refl _
  | m + 1, i, f => by
    unfold rnK
    split
    · omega
    · have := rnK_le (g := g) (m := m) (i := i + 1) (f := mvF f (g i))
      omega
theorem rnT_ty {g : TF} : ∀ {m i : Nat} {f : TF} {N : Int}, (∀ k, i ≤ k → k < i + m → 0 ≤ g k ∧ g k < 4) → tyOk f N → tyOk (rnT g m i f) (N + (m : Int))
  | 0, _, f, N, _, hf => by simpa [rnT] using hf
  | m + 1, i, f, N, hg, hf => by
    unfold rnT
    split
    · obtain ⟨a1, a2, a3, a4, a5, a6, a7⟩ := hf
      exact ⟨a1, a2, a3, a4, a5, a6, by omega⟩
    · have q := rnT_ty (g := g) (m := m) (i := i + 1) (N := N + 1) (fun k k1 k2 => hg k (by omega) (by omega)) (mvF_ty (hg i (by omega) (by omega)) hf)
      rw [show N + ((m + 1 : Nat) : Int) = N + 1 + (m : Int) by omega]
      exact q
theorem rnT_hi {g : TF} {s : Nat} (hs : 98 ≤ s) : ∀ {m i : Nat} {f : TF}, (∀ k, i ≤ k → k < i + m → 0 ≤ g k ∧ g k < 4) → lieOk f → rnT g m i f s = f s
  | 0, _, _, _, _ => rfl
  | m + 1, i, f, hg, hf => by
    unfold rnT
    split
    · rfl
    · rw [rnT_hi hs (m := m) (fun k k1 k2 => hg k (by omega) (by omega)) (mvF_ok (hg i (by omega) (by omega)) hf), mvF_hi (hg i (by omega) (by omega)) hs hf]
