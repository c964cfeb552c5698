/-! 03: the reading's own rows: a step, a call, an end -/
theorem run1_mono {cl cl' : Nat → List AV → AG → AH → Option RS} (hc : ∀ j as G h o, cl j as G h = some o → cl' j as G h = some o) : ∀ (n n' : Nat), n ≤ n' → ∀ (k pc : Nat) (ls : LC) (st : List AV) (G : AG) (h : AH) (o : RS), run1 cl n k pc ls st G h = some o → run1 cl' n' k pc ls st G h = some o := by
  intro n
  induction n with
  | zero => intro n' _ k pc ls st G h o e; simp [run1] at e
  | succ n ih =>
    intro n' hn k pc ls st G h o e
    obtain ⟨n1, rfl⟩ : ∃ m, n' = m + 1 := ⟨n' - 1, by omega⟩
    have hle : n ≤ n1 := by omega
    unfold run1 at e ⊢
    cases hs : step k pc ls st G h with
    | none => rw [hs] at e; simp at e
    | some w =>
      rw [hs] at e
      rcases w with ⟨pc', ls', st', G', h'⟩ | ⟨j, as, pc', ls', st', G', h'⟩ | r
      · exact ih n1 hle _ _ _ _ _ _ _ e
      · dsimp only at e ⊢
        cases hcl : cl j as G' h' with
        | none => rw [hcl] at e; simp at e
        | some q =>
          obtain ⟨r, G2, h2⟩ := q
          rw [hcl] at e
          rw [hc _ _ _ _ _ hcl]
          exact ih n1 hle _ _ _ _ _ _ _ e
      · exact e
theorem runD_mono {F F' : Nat} (hF : F ≤ F') : ∀ (d j : Nat) (as : List AV) (G : AG) (h : AH) (o : RS), runD F d j as G h = some o → runD F' d j as G h = some o := by
  intro d
  induction d with
  | zero => intro j as G h o e; simp [runD] at e
  | succ d ih =>
    intro j as G h o e
    simp only [runD] at e ⊢
    split at e
    · rename_i hl
      rw [if_pos hl]
      exact run1_mono ih F F' hF _ _ _ _ _ _ _ e
    · cases e
section
variable {d k pc : Nat} {ls : LC} {st : List AV} {G : AG} {h : AH} {Q : Option AV → AG → AH → Prop}
theorem wp_nx {pc' : Nat} {ls' : LC} {st' : List AV} {G' : AG} {h' : AH} (e : step k pc ls st G h = some (.inl (pc', ls', st', G', h'))) : wp d k pc ls st G h Q = wp d k pc' ls' st' G' h' Q := by
  apply propext
  constructor
  · rintro ⟨F, n, r, G2, h2, e2, q⟩
    cases n with
    | zero => simp [run1] at e2
    | succ n => unfold run1 at e2; rw [e] at e2; exact ⟨F, n, r, G2, h2, e2, q⟩
  · rintro ⟨F, n, r, G2, h2, e2, q⟩
    exact ⟨F, n + 1, r, G2, h2, by unfold run1; rw [e]; exact e2, q⟩
theorem wp_rt {r : Option AV} (e : step k pc ls st G h = some (.inr (.inr r))) : wp d k pc ls st G h Q = Q r G h := by
  apply propext
  constructor
  · rintro ⟨F, n, r2, G2, h2, e2, q⟩
    cases n with
    | zero => simp [run1] at e2
    | succ n =>
      unfold run1 at e2
      rw [e] at e2
      cases e2
      exact q
  · intro q
    exact ⟨0, 1, r, G, h, by unfold run1; rw [e], q⟩
theorem wp_cl {j : Nat} {as : List AV} {pc' : Nat} {ls' : LC} {st' : List AV} {G' : AG} {h' : AH} (e : step k pc ls st G h = some (.inr (.inl (j, as, (pc', ls', st', G', h'))))) : wp d k pc ls st G h Q = call d j as G' h' (fun r G2 h2 => wp d k pc' ls' (pushR r st') G2 h2 Q) := by
  apply propext
  constructor
  · rintro ⟨F, n, r2, G2, h2, e2, q⟩
    cases n with
    | zero => simp [run1] at e2
    | succ n =>
      unfold run1 at e2
      rw [e] at e2
      dsimp only at e2
      cases hcl : runD F d j as G' h' with
      | none => rw [hcl] at e2; simp at e2
      | some w =>
        obtain ⟨r, G3, h3⟩ := w
        rw [hcl] at e2
        exact ⟨F, r, G3, h3, hcl, F, n, r2, G2, h2, e2, q⟩
  · rintro ⟨F, r, G3, h3, hcl, F2, n, r2, G2, h2, e2, q⟩
    refine ⟨F + F2, n + 1, r2, G2, h2, ?_, q⟩
    unfold run1
    rw [e]
    dsimp only
    rw [runD_mono (Nat.le_add_right F F2) _ _ _ _ _ _ hcl]
    exact run1_mono (runD_mono (Nat.le_add_left F2 F) d) n n (Nat.le_refl _) _ _ _ _ _ _ _ e2
theorem call_wp {j : Nat} {as : List AV} (hl : (lay as).length ≤ P_l j) : call (d + 1) j as G h Q = wp d j 0 (ini j as) [] G h Q := by
  apply propext
  constructor
  · rintro ⟨F, r, G2, h2, e, q⟩
    simp only [runD, if_pos hl] at e
    exact ⟨F, F, r, G2, h2, e, q⟩
  · rintro ⟨F, n, r, G2, h2, e, q⟩
    refine ⟨F + n, r, G2, h2, ?_, q⟩
    simp only [runD, if_pos hl]
    exact run1_mono (runD_mono (Nat.le_add_right F n) d) n (F + n) (Nat.le_add_left n F) _ _ _ _ _ _ _ e
theorem call_mono {j : Nat} {as : List AV} {Q2 : Option AV → AG → AH → Prop} (c : call d j as G h Q) (hq : ∀ r G2 h2, Q r G2 h2 → Q2 r G2 h2) : call d j as G h Q2 := by
  obtain ⟨F, r, G2, h2, e, q⟩ := c
  exact ⟨F, r, G2, h2, e, hq _ _ _ q⟩
theorem wp_mono {Q2 : Option AV → AG → AH → Prop} (c : wp d k pc ls st G h Q) (hq : ∀ r G2 h2, Q r G2 h2 → Q2 r G2 h2) : wp d k pc ls st G h Q2 := by
  obtain ⟨F, n, r, G2, h2, e, q⟩ := c
  exact ⟨F, n, r, G2, h2, e, hq _ _ _ q⟩
theorem call_det {j : Nat} {as : List AV} {r1 : Option AV} {G1 : AG} {h1 : AH} (c : call d j as G h (fun r G2 h2 => r = r1 ∧ G2 = G1 ∧ h2 = h1)) : call d j as G h Q = Q r1 G1 h1 := by
  apply propext
  obtain ⟨F, r, G2, h2, e, rfl, rfl, rfl⟩ := c
  constructor
  · rintro ⟨F', r', G', h', e', q⟩
    have a1 := runD_mono (Nat.le_add_right F F') _ _ _ _ _ _ e
    have a2 := runD_mono (Nat.le_add_left F' F) _ _ _ _ _ _ e'
    rw [a1] at a2
    cases a2
    exact q
  · exact fun q => ⟨F, _, _, _, e, q⟩
end
