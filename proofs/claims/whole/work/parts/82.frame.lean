/-! 82: the script stays as it is -/
def OKo (G : AG) (h : AH) (o : Option OU) : Prop := match o with
  | some (.inl (_, _, _, G', h')) => gN G' ≤ 900 ∧ ∀ a, 1000 ≤ a → h' a = h a
  | some (.inr (.inl (_, _, (_, _, _, G', h')))) => gN G' ≤ 900 ∧ ∀ a, 1000 ≤ a → h' a = h a
  | _ => True
theorem oko_nx {pc : Nat} {ls : LC} {st : List AV} {G G' : AG} {h h' : AH} (hG : gN G' ≤ 900) (hh : ∀ a, 1000 ≤ a → h' a = h a) : OKo G h (nx pc ls st G' h') := ⟨hG, hh⟩
theorem oko_n {pc : Nat} {ls : LC} {st : List AV} {G : AG} {h : AH} (hG : gN G ≤ 900) : OKo G h (nx pc ls st G h) := ⟨hG, fun _ _ => rfl⟩
theorem oko_jmp {pc : Nat} {off : Int} {ls : LC} {st : List AV} {G : AG} {h : AH} (hG : gN G ≤ 900) : OKo G h (jmp pc off ls st G h) := by
  unfold jmp
  split
  · exact oko_n hG
  · trivial
theorem oko_put {pc : Nat} {ls : LC} {st : List AV} {G : AG} {h : AH} {a k : Nat} {v : Int} (hG : gN G ≤ 900) (ha : a < 1000) : OKo G h (nx pc ls st G (put h a k v)) := oko_nx hG (fun b hb => put_row (by omega))
theorem oko_srf {pc : Nat} {ls : LC} {st : List AV} {G : AG} {h : AH} {a j : Nat} {r : Option Nat} (hG : gN G ≤ 900) : OKo G h (nx pc ls st (srf G a j r) h) := oko_nx hG (fun _ _ => rfl)
theorem oko_new {pc : Nat} {ls : LC} {st : List AV} {G : AG} {h : AH} {s : Nat × Nat} {r : List (Option Nat)} (hG : gN G < 900) : OKo G h (nx pc ls st (mk G s r) (clr h (gN G))) := oko_nx (by rw [gN_mk]; omega) (fun b hb => by funext k; unfold clr; rw [if_neg (by omega)])
theorem shp_lt2 {G : AG} {o ci k : Nat} (h : shp G o = (4 + ci, fN ci)) (hk : k < fN ci) : o < gN G := by
  by_cases e : o < gN G
  · exact e
  · exfalso
    have e1 : shp G o = (99, 0) := by
      unfold shp
      rw [List.getD_eq_getElem?_getD, List.getElem?_eq_none (by unfold gN at e; omega)]
      rfl
    rw [e1] at h
    injection h with h1 h2
    omega
theorem oko_ldI {i len pc : Nat} {ls : LC} {st : List AV} {G : AG} {h : AH} (hG : gN G ≤ 900) : OKo G h (ldI i len pc ls st G h) := by unfold ldI; (repeat' split) <;> first | exact oko_n hG | trivial
theorem oko_ldL {i len pc : Nat} {ls : LC} {st : List AV} {G : AG} {h : AH} (hG : gN G ≤ 900) : OKo G h (ldL i len pc ls st G h) := by unfold ldL; (repeat' split) <;> first | exact oko_n hG | trivial
theorem oko_ldA {i len pc : Nat} {ls : LC} {st : List AV} {G : AG} {h : AH} (hG : gN G ≤ 900) : OKo G h (ldA i len pc ls st G h) := by unfold ldA; (repeat' split) <;> first | exact oko_n hG | trivial
theorem oko_stI {i len pc : Nat} {ls : LC} {st : List AV} {G : AG} {h : AH} (hG : gN G ≤ 900) : OKo G h (stI i len pc ls st G h) := by unfold stI; (repeat' split) <;> first | exact oko_n hG | trivial
theorem oko_stL {i len pc : Nat} {ls : LC} {st : List AV} {G : AG} {h : AH} (hG : gN G ≤ 900) : OKo G h (stL i len pc ls st G h) := by unfold stL; (repeat' split) <;> first | exact oko_n hG | trivial
theorem oko_stA {i len pc : Nat} {ls : LC} {st : List AV} {G : AG} {h : AH} (hG : gN G ≤ 900) : OKo G h (stA i len pc ls st G h) := by unfold stA; (repeat' split) <;> first | exact oko_n hG | trivial
theorem oko_binI {f : Int → Int → Int} {pc : Nat} {ls : LC} {st : List AV} {G : AG} {h : AH} (hG : gN G ≤ 900) : OKo G h (binI f pc ls st G h) := by unfold binI; (repeat' split) <;> first | exact oko_n hG | trivial
theorem oko_binL {f : Int → Int → Int} {pc : Nat} {ls : LC} {st : List AV} {G : AG} {h : AH} (hG : gN G ≤ 900) : OKo G h (binL f pc ls st G h) := by unfold binL; (repeat' split) <;> first | exact oko_n hG | trivial
theorem oko_divI {f : Int → Int → Int} {pc : Nat} {ls : LC} {st : List AV} {G : AG} {h : AH} (hG : gN G ≤ 900) : OKo G h (divI f pc ls st G h) := by unfold divI; (repeat' split) <;> first | exact oko_n hG | trivial
theorem oko_divL {f : Int → Int → Int} {pc : Nat} {ls : LC} {st : List AV} {G : AG} {h : AH} (hG : gN G ≤ 900) : OKo G h (divL f pc ls st G h) := by unfold divL; (repeat' split) <;> first | exact oko_n hG | trivial
theorem oko_icmp {c : Jvm.ClassFile.Cond} {off : Int} {pc : Nat} {ls : LC} {st : List AV} {G : AG} {h : AH} (hG : gN G ≤ 900) : OKo G h (icmpS c off pc ls st G h) := by unfold icmpS; (repeat' split) <;> first | exact oko_n hG | exact oko_jmp hG | trivial
theorem oko_if {c : Jvm.ClassFile.Cond} {off : Int} {pc : Nat} {ls : LC} {st : List AV} {G : AG} {h : AH} (hG : gN G ≤ 900) : OKo G h (ifS c off pc ls st G h) := by unfold ifS; (repeat' split) <;> first | exact oko_n hG | exact oko_jmp hG | trivial
theorem oko_ald {kd pc : Nat} {ls : LC} {st : List AV} {G : AG} {h : AH} (hG : gN G ≤ 900) : OKo G h (aldS kd pc ls st G h) := by unfold aldS; (repeat' split) <;> first | exact oko_n hG | trivial
theorem oko_ast {kd pc : Nat} {ls : LC} {st : List AV} {G : AG} {h : AH} (hG : gN G ≤ 900) : OKo G h (astS kd pc ls st G h) := by
  unfold astS
  split
  · split
    · rename_i hc
      exact oko_put hG hc.1.1
    · trivial
  · trivial
theorem oko_aald {pc : Nat} {ls : LC} {st : List AV} {G : AG} {h : AH} (hG : gN G ≤ 900) : OKo G h (aaldS pc ls st G h) := by unfold aaldS; (repeat' split) <;> first | exact oko_n hG | trivial
theorem oko_aast {pc : Nat} {ls : LC} {st : List AV} {G : AG} {h : AH} (hG : gN G ≤ 900) : OKo G h (aastS pc ls st G h) := by unfold aastS; (repeat' split) <;> first | exact oko_srf hG | trivial
theorem oko_alen {pc : Nat} {ls : LC} {st : List AV} {G : AG} {h : AH} (hG : gN G ≤ 900) : OKo G h (alenS pc ls st G h) := by unfold alenS; (repeat' split) <;> first | exact oko_n hG | trivial
theorem oko_newa {kd pc len : Nat} {r : Int → List (Option Nat)} {ls : LC} {st : List AV} {G : AG} {h : AH} : OKo G h (newaS kd pc len r ls st G h) := by
  unfold newaS
  split
  · split
    · rename_i hc
      exact oko_new hc.2.2
    · trivial
  · trivial
theorem oko_getf {ci k pc : Nat} {ls : LC} {st : List AV} {G : AG} {h : AH} (hG : gN G ≤ 900) : OKo G h (getfS ci k pc ls st G h) := by unfold getfS; (repeat' split) <;> first | exact oko_n hG | trivial
theorem oko_putf {ci k pc : Nat} {ls : LC} {st : List AV} {G : AG} {h : AH} (hG : gN G ≤ 900) : OKo G h (putfS ci k pc ls st G h) := by
  unfold putfS
  split
  · split
    · rename_i hc
      have ho := shp_lt2 hc.1 hc.2
      (repeat' split) <;> first | exact oko_put hG (by omega) | exact oko_srf hG | trivial
    · trivial
  · trivial
theorem oko_inv {k b virt pc : Nat} {ls : LC} {st : List AV} {G : AG} {h : AH} (hG : gN G ≤ 900) : OKo G h (invS k b virt pc ls st G h) := by
  unfold invS
  split
  · exact ⟨hG, fun _ _ => rfl⟩
  · trivial
theorem oko_cop {pc : Nat} {ls : LC} {st : List AV} {G : AG} {h : AH} (hG : gN G ≤ 900) : OKo G h (copS pc ls st G h) := by
  unfold copS
  split
  · split
    · rename_i hc
      refine oko_nx hG (fun a ha => ?_)
      funext k
      rw [if_neg (fun z => by omega)]
    · trivial
  · trivial
theorem oko_ret1 {rk : Nat} {st : List AV} {G : AG} {h : AH} : OKo G h (ret1 rk st) := by unfold ret1; (repeat' split) <;> trivial
theorem oko_ret2 {st : List AV} {G : AG} {h : AH} : OKo G h (ret2 st) := by unfold ret2; (repeat' split) <;> trivial
theorem oko_ret0 {st : List AV} {G : AG} {h : AH} : OKo G h (ret0 st) := by unfold ret0; (repeat' split) <;> trivial
theorem oko_dup {pc : Nat} {ls : LC} {st : List AV} {G : AG} {h : AH} (hG : gN G ≤ 900) : OKo G h (dupS pc ls st G h) := by unfold dupS; (repeat' split) <;> first | exact oko_n hG | trivial
theorem oko_dup2 {pc : Nat} {ls : LC} {st : List AV} {G : AG} {h : AH} (hG : gN G ≤ 900) : OKo G h (dup2S pc ls st G h) := by unfold dup2S; (repeat' split) <;> first | exact oko_n hG | trivial
theorem oko_pop {pc : Nat} {ls : LC} {st : List AV} {G : AG} {h : AH} (hG : gN G ≤ 900) : OKo G h (popS pc ls st G h) := by unfold popS; (repeat' split) <;> first | exact oko_n hG | trivial
theorem oko_lcmp {pc : Nat} {ls : LC} {st : List AV} {G : AG} {h : AH} (hG : gN G ≤ 900) : OKo G h (lcmpS pc ls st G h) := by unfold lcmpS; (repeat' split) <;> first | exact oko_n hG | trivial
theorem oko_i2l {pc : Nat} {ls : LC} {st : List AV} {G : AG} {h : AH} (hG : gN G ≤ 900) : OKo G h (i2lS pc ls st G h) := by unfold i2lS; (repeat' split) <;> first | exact oko_n hG | trivial
theorem oko_l2i {pc : Nat} {ls : LC} {st : List AV} {G : AG} {h : AH} (hG : gN G ≤ 900) : OKo G h (l2iS pc ls st G h) := by unfold l2iS; (repeat' split) <;> first | exact oko_n hG | trivial
theorem oko_i2b {pc : Nat} {ls : LC} {st : List AV} {G : AG} {h : AH} (hG : gN G ≤ 900) : OKo G h (i2bS pc ls st G h) := by unfold i2bS; (repeat' split) <;> first | exact oko_n hG | trivial
theorem oko_lneg {pc : Nat} {ls : LC} {st : List AV} {G : AG} {h : AH} (hG : gN G ≤ 900) : OKo G h (lnegS pc ls st G h) := by unfold lnegS; (repeat' split) <;> first | exact oko_n hG | trivial
theorem oko_iinc {i pc : Nat} {n : Int} {ls : LC} {st : List AV} {G : AG} {h : AH} (hG : gN G ≤ 900) : OKo G h (iincS i n pc ls st G h) := by unfold iincS; (repeat' split) <;> first | exact oko_n hG | trivial
theorem oko_tab {df lo hi : Int} {offs : Array Int} {pc : Nat} {ls : LC} {st : List AV} {G : AG} {h : AH} (hG : gN G ≤ 900) : OKo G h (tabS df lo hi offs pc ls st G h) := by unfold tabS; (repeat' split) <;> first | exact oko_jmp hG | trivial
theorem oko_lkp {df : Int} {ps : Array (Int × Int)} {pc : Nat} {ls : LC} {st : List AV} {G : AG} {h : AH} (hG : gN G ≤ 900) : OKo G h (lkpS df ps pc ls st G h) := by unfold lkpS; (repeat' split) <;> first | exact oko_jmp hG | trivial
theorem oko_oi {pc : Nat} {ls : LC} {st : List AV} {G : AG} {h : AH} (hG : gN G ≤ 900) : OKo G h (oiS pc ls st G h) := by unfold oiS; (repeat' split) <;> first | exact oko_n hG | trivial
set_option maxHeartbeats 4000000 in
theorem oko_step {rk : Nat} {ins : Instr} {a b : Nat} {c : Int} {pc : Nat} {ls : LC} {st : List AV} {G : AG} {h : AH} (hG : gN G ≤ 900) : OKo G h (stepI rk ins a b c pc ls st G h) := by
  unfold stepI
  split <;> first
    | exact oko_n hG | exact oko_ldI hG | exact oko_ldL hG | exact oko_ldA hG | exact oko_stI hG | exact oko_stL hG | exact oko_stA hG
    | exact oko_binI hG | exact oko_binL hG | exact oko_divI hG | exact oko_divL hG | exact oko_icmp hG | exact oko_if hG | exact oko_jmp hG
    | exact oko_ald hG | exact oko_ast hG | exact oko_aald hG | exact oko_aast hG | exact oko_alen hG | exact oko_getf hG | exact oko_putf hG
    | exact oko_ret1 | exact oko_dup hG | exact oko_dup2 hG | exact oko_pop hG | exact oko_lcmp hG | exact oko_i2l hG | exact oko_l2i hG | exact oko_i2b hG | exact oko_lneg hG | exact oko_iinc hG | exact oko_tab hG | exact oko_lkp hG | exact oko_inv hG
    | (split <;> first | exact oko_n hG | exact oko_newa | exact oko_cop hG | exact oko_inv hG | exact oko_oi hG | exact oko_ret2 | exact oko_ret0 | (rename_i hc; exact oko_new hc.1) | trivial | (split <;> first | exact oko_newa | trivial))
    | trivial
theorem step_keep {k pc : Nat} {ls : LC} {st : List AV} {G : AG} {h : AH} (hG : gN G ≤ 900) : OKo G h (step k pc ls st G h) := by
  unfold step
  split
  · exact oko_step hG
  · trivial
theorem run1_keep {cl : Nat → List AV → AG → AH → Option RS} (hcl : ∀ j as G h r G' h', gN G ≤ 900 → cl j as G h = some (r, G', h') → gN G' ≤ 900 ∧ ∀ a, 1000 ≤ a → h' a = h a) : ∀ (n k pc : Nat) (ls : LC) (st : List AV) (G : AG) (h : AH) (r : Option AV) (G' : AG) (h' : AH), gN G ≤ 900 → run1 cl n k pc ls st G h = some (r, G', h') → gN G' ≤ 900 ∧ ∀ a, 1000 ≤ a → h' a = h a := by
  intro n
  induction n with
  | zero => intro k pc ls st G h r G' h' hG e; exact absurd e (by simp [run1])
  | succ n ih =>
    intro k pc ls st G h r G' h' hG e
    unfold run1 at e
    have q := step_keep (k := k) (pc := pc) (ls := ls) (st := st) (G := G) (h := h) hG
    cases hs : step k pc ls st G h with
    | none => rw [hs] at e; exact absurd e (by simp)
    | some o =>
      rw [hs] at e q
      match o, e, q with
      | .inl (pc', ls', st', G2, h2), e, q =>
        have q2 := ih k pc' ls' st' G2 h2 r G' h' q.1 e
        exact ⟨q2.1, fun a ha => by rw [q2.2 a ha, q.2 a ha]⟩
      | .inr (.inl (j, as, (pc', ls', st', G2, h2))), e, q =>
        dsimp only at e
        cases hc : cl j as G2 h2 with
        | none => rw [hc] at e; exact absurd e (by simp)
        | some rs =>
          obtain ⟨r3, G3, h3⟩ := rs
          rw [hc] at e
          have q1 := hcl j as G2 h2 r3 G3 h3 q.1 hc
          have q2 := ih k pc' ls' (pushR r3 st') G3 h3 r G' h' q1.1 e
          exact ⟨q2.1, fun a ha => by rw [q2.2 a ha, q1.2 a ha, q.2 a ha]⟩
      | .inr (.inr r2), e, q =>
        dsimp only at e
        injection e with e
        injection e with e1 e2
        injection e2 with e3 e4
        subst e3 e4
        exact ⟨hG, fun _ _ => rfl⟩
theorem runD_keep {F : Nat} : ∀ (d j : Nat) (as : List AV) (G : AG) (h : AH) (r : Option AV) (G' : AG) (h' : AH), gN G ≤ 900 → runD F d j as G h = some (r, G', h') → gN G' ≤ 900 ∧ ∀ a, 1000 ≤ a → h' a = h a := by
  intro d
  induction d with
  | zero => intro j as G h r G' h' hG e; exact absurd e (by simp [runD])
  | succ d ih =>
    intro j as G h r G' h' hG e
    simp only [runD] at e
    split at e
    · exact run1_keep ih F j 0 _ _ G h r G' h' hG e
    · exact absurd e (by simp)
/-- what a call answers always the same leaves the script as it is -/
theorem call_keep {d j : Nat} {as : List AV} {G G' : AG} {h h' : AH} {r : Option AV} (hG : gN G ≤ 900) (hc : ∀ Q : Option AV → AG → AH → Prop, call d j as G h Q = Q r G' h') : ∀ a, 1000 ≤ a → h' a = h a := by
  have q := hc (fun _ _ h2 => h2 = h')
  have q2 : call d j as G h (fun _ _ h2 => h2 = h') := by rw [q]
  obtain ⟨F, r2, G2, h2, e, e2⟩ := q2
  subst e2
  exact (runD_keep d j as G h r2 G2 h2 hG e).2
theorem gN_G1 : gN G1 ≤ 900 := by decide
