/-! 65: the first moves that lead there -/
def okc (P : TF → Bool) (k code : Nat) (f : TF) : Bool := gb code k f && P (gt code k f)
def dm (D : TF → Option Nat) (f : TF) (q : Nat) : Nat → Nat → Option Nat
  | 0, _ => none
  | n + 1, i => if barM f (i : Int) then dm D f q n (i + 1) else match D (mvF f (i : Int)) with
    | some c => some (i * q + c)
    | none => dm D f q n (i + 1)
def ds (P : TF → Bool) : Nat → TF → Option Nat
  | 0, f => if P f = true then some 0 else none
  | k + 1, f => dm (ds P k) f (4 ^ k) 4 0
theorem dm_some {D : TF → Option Nat} {f : TF} {q c : Nat} : ∀ {n i : Nat}, dm D f q n i = some c → ∃ m c0, i ≤ m ∧ m < i + n ∧ c = m * q + c0 ∧ ¬ barM f (m : Int) ∧ D (mvF f (m : Int)) = some c0 ∧ ∀ m', i ≤ m' → m' < m → barM f (m' : Int) ∨ D (mvF f (m' : Int)) = none := by
  intro n
  induction n with
  | zero => intro i h; exact absurd h (by simp [dm])
  | succ n ih =>
    intro i h
    by_cases hb : barM f (i : Int)
    · have h2 : dm D f q n (i + 1) = some c := by rw [← h]; conv => rhs; unfold dm; rw [if_pos hb]
      obtain ⟨m, c0, a1, a2, a3, a4, a5, a6⟩ := ih h2
      refine ⟨m, c0, by omega, by omega, a3, a4, a5, fun m' b1 b2 => ?_⟩
      by_cases e : m' = i
      · subst e; exact Or.inl hb
      · exact a6 m' (by omega) b2
    · cases hD : D (mvF f (i : Int)) with
      | some c0 =>
        have h2 : dm D f q (n + 1) i = some (i * q + c0) := by unfold dm; rw [if_neg hb, hD]
        rw [h] at h2
        exact ⟨i, c0, Nat.le_refl _, by omega, by injection h2, hb, hD, fun m' b1 b2 => by omega⟩
      | none =>
        have h2 : dm D f q n (i + 1) = some c := by rw [← h]; conv => rhs; unfold dm; rw [if_neg hb, hD]
        obtain ⟨m, c0, a1, a2, a3, a4, a5, a6⟩ := ih h2
        refine ⟨m, c0, by omega, by omega, a3, a4, a5, fun m' b1 b2 => ?_⟩
        by_cases e : m' = i
        · subst e; exact Or.inr hD
        · exact a6 m' (by omega) b2
theorem dm_none {D : TF → Option Nat} {f : TF} {q : Nat} : ∀ {n i : Nat}, dm D f q n i = none → ∀ m', i ≤ m' → m' < i + n → barM f (m' : Int) ∨ D (mvF f (m' : Int)) = none := by
  intro n
  induction n with
  | zero => intro i h m' b1 b2; omega
  | succ n ih =>
    intro i h m' b1 b2
    by_cases hb : barM f (i : Int)
    · have h2 : dm D f q n (i + 1) = none := by rw [← h]; conv => rhs; unfold dm; rw [if_pos hb]
      by_cases e : m' = i
      · subst e; exact Or.inl hb
      · exact ih h2 m' (by omega) (by omega)
    · cases hD : D (mvF f (i : Int)) with
      | some c0 =>
        have h2 : dm D f q (n + 1) i = some (i * q + c0) := by unfold dm; rw [if_neg hb, hD]
        rw [h] at h2
        exact absurd h2 (by simp)
      | none =>
        have h2 : dm D f q n (i + 1) = none := by rw [← h]; conv => rhs; unfold dm; rw [if_neg hb, hD]
        by_cases e : m' = i
        · subst e; exact Or.inr hD
        · exact ih h2 m' (by omega) (by omega)
theorem dg_lo {a c k j : Nat} (hj : j < k) : dg (a * 4 ^ k + c) j = dg c j := by
  unfold dg
  obtain ⟨e, rfl⟩ : ∃ e, k = j + 1 + e := ⟨k - j - 1, by omega⟩
  have h1 : a * 4 ^ (j + 1 + e) + c = c + 4 ^ j * (4 * (a * 4 ^ e)) := by
    rw [Nat.pow_add, Nat.pow_add, Nat.pow_one]
    rw [Nat.add_comm]
    congr 1
    simp only [Nat.mul_comm, Nat.mul_left_comm, Nat.mul_assoc]
  rw [h1, Nat.add_mul_div_left _ _ (Nat.pow_pos (by omega)), Nat.add_mul_mod_self_left]
theorem dg_hi {a c k : Nat} (ha : a < 4) (hc : c < 4 ^ k) : dg (a * 4 ^ k + c) k = (a : Int) := by
  unfold dg
  rw [Nat.add_comm, Nat.add_mul_div_right _ _ (Nat.pow_pos (by omega)), Nat.div_eq_of_lt hc, Nat.zero_add, Nat.mod_eq_of_lt ha]
theorem gb_lo {a c k : Nat} : ∀ {j : Nat} {f : TF}, j ≤ k → gb (a * 4 ^ k + c) j f = gb c j f
  | 0, _, _ => rfl
  | j + 1, f, h => by
    unfold gb
    rw [dg_lo (by omega), gb_lo (by omega)]
theorem gt_lo {a c k : Nat} : ∀ {j : Nat} {f : TF}, j ≤ k → gt (a * 4 ^ k + c) j f = gt c j f
  | 0, _, _ => rfl
  | j + 1, f, h => by
    unfold gt
    rw [dg_lo (by omega), gt_lo (by omega)]
theorem okc_b {P : TF → Bool} {k a c : Nat} {f : TF} (ha : a < 4) (hc : c < 4 ^ k) (hb : barM f (a : Int)) : okc P (k + 1) (a * 4 ^ k + c) f = false := by
  unfold okc gb
  rw [dg_hi ha hc, if_pos hb]
  rfl
theorem okc_n {P : TF → Bool} {k a c : Nat} {f : TF} (ha : a < 4) (hc : c < 4 ^ k) (hb : ¬ barM f (a : Int)) : okc P (k + 1) (a * 4 ^ k + c) f = okc P k c (mvF f (a : Int)) := by
  unfold okc
  have e1 : gb (a * 4 ^ k + c) (k + 1) f = gb c k (mvF f (a : Int)) := by conv => lhs; unfold gb; rw [dg_hi ha hc, if_neg hb, gb_lo (Nat.le_refl _)]
  have e2 : gt (a * 4 ^ k + c) (k + 1) f = gt c k (mvF f (a : Int)) := by conv => lhs; unfold gt; rw [dg_hi ha hc, if_neg hb, gt_lo (Nat.le_refl _)]
  rw [e1, e2]
theorem code_cut {k c : Nat} (h : c < 4 ^ (k + 1)) : c / 4 ^ k < 4 ∧ c % 4 ^ k < 4 ^ k ∧ c = (c / 4 ^ k) * 4 ^ k + c % 4 ^ k := by
  have hp : 0 < 4 ^ k := Nat.pow_pos (by omega)
  refine ⟨?_, Nat.mod_lt _ hp, ?_⟩
  · rw [Nat.div_lt_iff_lt_mul hp, Nat.mul_comm, ← Nat.pow_succ]; exact h
  · rw [Nat.mul_comm]; exact (Nat.div_add_mod c (4 ^ k)).symm
theorem ds_ok {P : TF → Bool} : ∀ (k : Nat) (f : TF), (∀ c, ds P k f = some c → c < 4 ^ k ∧ okc P k c f = true ∧ ∀ c', c' < c → okc P k c' f = false) ∧ (ds P k f = none → ∀ c', c' < 4 ^ k → okc P k c' f = false) := by
  intro k
  induction k with
  | zero =>
    intro f
    by_cases hp : P f = true
    · have e : ds P 0 f = some 0 := by unfold ds; rw [if_pos hp]
      rw [e]
      refine ⟨fun c hc => ?_, fun h => absurd h (by simp)⟩
      injection hc with hc
      subst hc
      refine ⟨by decide, ?_, fun c' h => by omega⟩
      unfold okc gb gt
      rw [hp]
      rfl
    · have e : ds P 0 f = none := by unfold ds; rw [if_neg hp]
      rw [e]
      refine ⟨fun c hc => absurd hc (by simp), fun _ c' h => ?_⟩
      unfold okc gb gt
      rw [Bool.eq_false_iff.mpr hp]
      rfl
  | succ k ih =>
    intro f
    have hp : 0 < 4 ^ k := Nat.pow_pos (by omega)
    have no : ∀ a c : Nat, a < 4 → c < 4 ^ k → (barM f (a : Int) ∨ ds P k (mvF f (a : Int)) = none) → okc P (k + 1) (a * 4 ^ k + c) f = false := by
      intro a c ha hc h
      by_cases hb : barM f (a : Int)
      · exact okc_b ha hc hb
      · rw [okc_n ha hc hb]
        exact (ih (mvF f (a : Int))).2 (h.resolve_left hb) c hc
    refine ⟨fun c hc => ?_, fun hn c' h' => ?_⟩
    · obtain ⟨m, c0, a1, a2, a3, a4, a5, a6⟩ := dm_some (show dm (ds P k) f (4 ^ k) 4 0 = some c from hc)
      obtain ⟨b1, b2, b3⟩ := (ih (mvF f (m : Int))).1 c0 a5
      have hm : (m + 1) * 4 ^ k ≤ 4 * 4 ^ k := Nat.mul_le_mul_right _ (by omega)
      have hs : (m + 1) * 4 ^ k = m * 4 ^ k + 4 ^ k := Nat.succ_mul _ _
      have h4 : 4 ^ (k + 1) = 4 * 4 ^ k := by rw [Nat.pow_succ, Nat.mul_comm]
      refine ⟨by omega, ?_, fun c' hlt => ?_⟩
      · rw [a3, okc_n (by omega) b1 a4]; exact b2
      · obtain ⟨d1, d2, d3⟩ := code_cut (k := k) (c := c') (by omega)
        rw [d3]
        rcases Nat.lt_trichotomy (c' / 4 ^ k) m with z | z | z
        · exact no _ _ d1 d2 (a6 _ (Nat.zero_le _) z)
        · rw [z] at d3 ⊢
          rw [okc_n (by omega) d2 a4]
          exact b3 _ (by omega)
        · have : (m + 1) * 4 ^ k ≤ c' / 4 ^ k * 4 ^ k := Nat.mul_le_mul_right _ z
          omega
    · obtain ⟨d1, d2, d3⟩ := code_cut (k := k) (c := c') h'
      rw [d3]
      exact no _ _ d1 d2 (dm_none (show dm (ds P k) f (4 ^ k) 4 0 = none from hn) _ (Nat.zero_le _) (by rw [Nat.zero_add]; exact d1))
/-- the codes one by one -/
def sc (P : TF → Bool) (k : Nat) (f : TF) : Nat → Nat → Option Nat
  | 0, _ => none
  | m + 1, j => if okc P k j f = true then some j else sc P k f m (j + 1)
theorem sc_some {P : TF → Bool} {k c : Nat} {f : TF} (h1 : okc P k c f = true) (h2 : ∀ c', c' < c → okc P k c' f = false) : ∀ {m j : Nat}, j ≤ c → c < j + m → sc P k f m j = some c
  | 0, j, a, b => by omega
  | m + 1, j, a, b => by
    unfold sc
    by_cases e : j = c
    · subst e; rw [if_pos h1]
    · rw [if_neg (by rw [h2 j (by omega)]; decide)]
      exact sc_some h1 h2 (by omega) (by omega)
theorem sc_none {P : TF → Bool} {k : Nat} {f : TF} : ∀ {m j : Nat}, (∀ c', j ≤ c' → c' < j + m → okc P k c' f = false) → sc P k f m j = none
  | 0, j, _ => rfl
  | m + 1, j, h => by
    unfold sc
    rw [if_neg (by rw [h j (Nat.le_refl _) (by omega)]; decide)]
    exact sc_none (fun c' a b => h c' (by omega) (by omega))
theorem sc_ds {P : TF → Bool} {k : Nat} {f : TF} : sc P k f (4 ^ k) 0 = ds P k f := by
  have q := ds_ok (P := P) k f
  cases hd : ds P k f with
  | some c =>
    obtain ⟨a1, a2, a3⟩ := q.1 c hd
    exact sc_some a2 a3 (by omega) (by omega)
  | none => exact sc_none (fun c' _ b => q.2 hd c' (by omega))
