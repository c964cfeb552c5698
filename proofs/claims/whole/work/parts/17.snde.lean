/-! 17: every step of the reading is followed -/
section
variable {p : Program} {l : Launch} {e : Env} {R : Room} {s : State} {m : MethodId} {args : Array Value} {below : List Frame} {meth : Method} {c : Code} {D : va_G} {cs : CS} {ba : BA} {n0 z0 : Nat} {Q : State → Prop} {k pc : Nat} {ls : LC} {st : List AV} {G : AG} {h : AH}

theorem binI_inv {f : Int → Int → Int} {o : OU} (e0 : binI f pc ls st G h = some o) : ∃ (x : Int) (y : Int) (st0 : List AV), st = .inl y :: .inl x :: st0 ∧ o = .inl (pc + 1, ls, .inl (f x y) :: st0, G, h) := by
  unfold binI at e0
  split at e0
  · cases e0
    exact ⟨_, _, _, rfl, rfl⟩
  · cases e0
theorem binL_inv {f : Int → Int → Int} {o : OU} (e0 : binL f pc ls st G h = some o) : ∃ (x : Int) (y : Int) (st0 : List AV), st = .inr (.inl y) :: .inr (.inl x) :: st0 ∧ o = .inl (pc + 1, ls, .inr (.inl (f x y)) :: st0, G, h) := by
  unfold binL at e0
  split at e0
  · cases e0
    exact ⟨_, _, _, rfl, rfl⟩
  · cases e0
theorem divI_inv {f : Int → Int → Int} {o : OU} (e0 : divI f pc ls st G h = some o) : ∃ (x : Int) (y : Int) (st0 : List AV), st = .inl y :: .inl x :: st0 ∧ ((-2147483648 ≤ x ∧ x < 2147483648) ∧ 0 < y ∧ y < 2147483648) ∧ o = .inl (pc + 1, ls, .inl (f x y) :: st0, G, h) := by
  unfold divI at e0
  split at e0
  · split at e0
    · rename_i hc
      cases e0
      exact ⟨_, _, _, rfl, hc, rfl⟩
    · cases e0
  · cases e0
theorem divL_inv {f : Int → Int → Int} {o : OU} (e0 : divL f pc ls st G h = some o) : ∃ (x : Int) (y : Int) (st0 : List AV), st = .inr (.inl y) :: .inr (.inl x) :: st0 ∧ ((-9223372036854775808 ≤ x ∧ x < 9223372036854775808) ∧ 0 < y ∧ y < 9223372036854775808) ∧ o = .inl (pc + 1, ls, .inr (.inl (f x y)) :: st0, G, h) := by
  unfold divL at e0
  split at e0
  · split at e0
    · rename_i hc
      cases e0
      exact ⟨_, _, _, rfl, hc, rfl⟩
    · cases e0
  · cases e0
theorem stI_inv {i len : Nat} {o : OU} (e0 : stI i len pc ls st G h = some o) : ∃ (x : Int) (st0 : List AV), st = .inl x :: st0 ∧ i < ls.length ∧ o = .inl (pc + len, st1 ls i (.inl x), st0, G, h) := by
  unfold stI at e0
  split at e0
  · split at e0
    · rename_i hc
      cases e0
      exact ⟨_, _, rfl, hc, rfl⟩
    · cases e0
  · cases e0
theorem stL_inv {i len : Nat} {o : OU} (e0 : stL i len pc ls st G h = some o) : ∃ (x : Int) (st0 : List AV), st = .inr (.inl x) :: st0 ∧ i + 1 < ls.length ∧ o = .inl (pc + len, st2 ls i (.inr (.inl x)), st0, G, h) := by
  unfold stL at e0
  split at e0
  · split at e0
    · rename_i hc
      cases e0
      exact ⟨_, _, rfl, hc, rfl⟩
    · cases e0
  · cases e0
theorem stA_inv {i len : Nat} {o : OU} (e0 : stA i len pc ls st G h = some o) : ∃ (x : Nat) (st0 : List AV), st = .inr (.inr (some x)) :: st0 ∧ i < ls.length ∧ o = .inl (pc + len, st1 ls i (.inr (.inr (some x))), st0, G, h) := by
  unfold stA at e0
  split at e0
  · split at e0
    · rename_i hc
      cases e0
      exact ⟨_, _, rfl, hc, rfl⟩
    · cases e0
  · cases e0
theorem lnegS_inv  {o : OU} (e0 : lnegS  pc ls st G h = some o) : ∃ (x : Int) (st0 : List AV), st = .inr (.inl x) :: st0 ∧ o = .inl (pc + 1, ls, .inr (.inl (-x)) :: st0, G, h) := by
  unfold lnegS at e0
  split at e0
  · cases e0
    exact ⟨_, _, rfl, rfl⟩
  · cases e0
theorem l2iS_inv  {o : OU} (e0 : l2iS  pc ls st G h = some o) : ∃ (x : Int) (st0 : List AV), st = .inr (.inl x) :: st0 ∧ o = .inl (pc + 1, ls, .inl x :: st0, G, h) := by
  unfold l2iS at e0
  split at e0
  · cases e0
    exact ⟨_, _, rfl, rfl⟩
  · cases e0
theorem i2bS_inv  {o : OU} (e0 : i2bS  pc ls st G h = some o) : ∃ (x : Int) (st0 : List AV), st = .inl x :: st0 ∧ o = .inl (pc + 1, ls, .inl (x.bmod 256) :: st0, G, h) := by
  unfold i2bS at e0
  split at e0
  · cases e0
    exact ⟨_, _, rfl, rfl⟩
  · cases e0
theorem i2lS_inv  {o : OU} (e0 : i2lS  pc ls st G h = some o) : ∃ (x : Int) (st0 : List AV), st = .inl x :: st0 ∧ (-2147483648 ≤ x ∧ x < 2147483648) ∧ o = .inl (pc + 1, ls, .inr (.inl x) :: st0, G, h) := by
  unfold i2lS at e0
  split at e0
  · split at e0
    · rename_i hc
      cases e0
      exact ⟨_, _, rfl, hc, rfl⟩
    · cases e0
  · cases e0
theorem dupS_inv  {o : OU} (e0 : dupS  pc ls st G h = some o) : ∃ (v : AV) (st0 : List AV), st = v :: st0 ∧ vcat v = 1 ∧ o = .inl (pc + 1, ls, v :: v :: st0, G, h) := by
  unfold dupS at e0
  split at e0
  · split at e0
    · rename_i hc
      cases e0
      exact ⟨_, _, rfl, hc, rfl⟩
    · cases e0
  · cases e0
theorem popS_inv  {o : OU} (e0 : popS  pc ls st G h = some o) : ∃ (v : AV) (st0 : List AV), st = v :: st0 ∧ vcat v = 1 ∧ o = .inl (pc + 1, ls, st0, G, h) := by
  unfold popS at e0
  split at e0
  · split at e0
    · rename_i hc
      cases e0
      exact ⟨_, _, rfl, hc, rfl⟩
    · cases e0
  · cases e0
theorem dup2S_inv  {o : OU} (e0 : dup2S  pc ls st G h = some o) : ∃ (v : AV) (w : AV) (st0 : List AV), st = v :: w :: st0 ∧ (vcat v = 1 ∧ vcat w = 1) ∧ o = .inl (pc + 1, ls, v :: w :: v :: w :: st0, G, h) := by
  unfold dup2S at e0
  split at e0
  · split at e0
    · rename_i hc
      cases e0
      exact ⟨_, _, _, rfl, hc, rfl⟩
    · cases e0
  · cases e0
theorem aldS_inv {kd : Nat} {o : OU} (e0 : aldS kd pc ls st G h = some o) : ∃ (i : Int) (a : Nat) (st0 : List AV), st = .inl i :: .inr (.inr (some a)) :: st0 ∧ (akd G a = kd ∧ 0 ≤ i ∧ i < aln G h a ∧ aln G h a ≤ 100000) ∧ o = .inl (pc + 1, ls, .inl (h a i.toNat) :: st0, G, h) := by
  unfold aldS at e0
  split at e0
  · split at e0
    · rename_i hc
      cases e0
      exact ⟨_, _, _, rfl, hc, rfl⟩
    · cases e0
  · cases e0
theorem astS_inv {kd : Nat} {o : OU} (e0 : astS kd pc ls st G h = some o) : ∃ (x : Int) (i : Int) (a : Nat) (st0 : List AV), st = .inl x :: .inl i :: .inr (.inr (some a)) :: st0 ∧ ((a < 1000 ∧ (shp G a).1 = kd ∧ 0 ≤ i ∧ i < (shp G a).2 ∧ (shp G a).2 ≤ 100000) ∧ (kd = 0 ∨ x = 0 ∨ x = 1)) ∧ o = .inl (pc + 1, ls, st0, G, put h a i.toNat x) := by
  unfold astS at e0
  split at e0
  · split at e0
    · rename_i hc
      cases e0
      exact ⟨_, _, _, _, rfl, hc, rfl⟩
    · cases e0
  · cases e0
theorem aaldS_inv  {o : OU} (e0 : aaldS  pc ls st G h = some o) : ∃ (i : Int) (a : Nat) (st0 : List AV), st = .inl i :: .inr (.inr (some a)) :: st0 ∧ (((shp G a).1 = 2 ∨ (shp G a).1 = 3) ∧ 0 ≤ i ∧ i < (shp G a).2 ∧ (shp G a).2 ≤ 100000) ∧ o = .inl (pc + 1, ls, .inr (.inr (rfs G a i.toNat)) :: st0, G, h) := by
  unfold aaldS at e0
  split at e0
  · split at e0
    · rename_i hc
      cases e0
      exact ⟨_, _, _, rfl, hc, rfl⟩
    · cases e0
  · cases e0
theorem aastS_inv  {o : OU} (e0 : aastS  pc ls st G h = some o) : ∃ (b : Nat) (i : Int) (a : Nat) (st0 : List AV), st = .inr (.inr (some b)) :: .inl i :: .inr (.inr (some a)) :: st0 ∧ ((((shp G a).1 = 2 ∧ (shp G b).1 = 4) ∨ ((shp G a).1 = 3 ∧ (shp G b).1 = 5)) ∧ 0 ≤ i ∧ i < (shp G a).2 ∧ (shp G a).2 ≤ 100000) ∧ o = .inl (pc + 1, ls, st0, srf G a i.toNat (some b), h) := by
  unfold aastS at e0
  split at e0
  · split at e0
    · rename_i hc
      cases e0
      exact ⟨_, _, _, _, rfl, hc, rfl⟩
    · cases e0
  · cases e0
theorem alenS_inv  {o : OU} (e0 : alenS  pc ls st G h = some o) : ∃ (a : Nat) (st0 : List AV), st = .inr (.inr (some a)) :: st0 ∧ (akd G a ≤ 3 ∧ 0 ≤ aln G h a ∧ aln G h a ≤ 100000) ∧ o = .inl (pc + 1, ls, .inl (aln G h a) :: st0, G, h) := by
  unfold alenS at e0
  split at e0
  · split at e0
    · rename_i hc
      cases e0
      exact ⟨_, _, rfl, hc, rfl⟩
    · cases e0
  · cases e0
theorem oiS_inv  {o : OU} (e0 : oiS  pc ls st G h = some o) : ∃ (a : Nat) (st0 : List AV), st = .inr (.inr (some a)) :: st0 ∧ (st0.map vcat).sum ≤ 8 ∧ o = .inl (pc + 3, ls, st0, G, h) := by
  unfold oiS at e0
  split at e0
  · split at e0
    · rename_i hc
      cases e0
      exact ⟨_, _, rfl, hc, rfl⟩
    · cases e0
  · cases e0
theorem copS_inv {o : OU} (e0 : copS pc ls st G h = some o) : ∃ (n dp sp : Int) (a b : Nat) (st0 : List AV), st = .inl n :: .inl dp :: .inr (.inr (some a)) :: .inl sp :: .inr (.inr (some b)) :: st0 ∧ ((a < 1000 ∧ b < 1000 ∧ (shp G a).1 = 0 ∧ (shp G b).1 = 0 ∧ 0 ≤ n ∧ 0 ≤ dp ∧ 0 ≤ sp ∧ sp + n ≤ (shp G b).2 ∧ dp + n ≤ (shp G a).2 ∧ (shp G a).2 ≤ 100000 ∧ (shp G b).2 ≤ 100000) ∧ (st0.map vcat).sum ≤ 8) ∧ o = .inl (pc + 3, ls, st0, G, fun a' k' => if a' = a ∧ dp ≤ (k' : Int) ∧ (k' : Int) < dp + n then h b (sp.toNat + (k' - dp.toNat)) else h a' k') := by
  unfold copS at e0
  split at e0
  · split at e0
    · rename_i hc
      cases e0
      exact ⟨_, _, _, _, _, _, rfl, hc, rfl⟩
    · cases e0
  · cases e0
theorem ldI_inv {i len : Nat} {o : OU} (e0 : ldI i len pc ls st G h = some o) : ∃ x : Int, ls.getD i none = some (.inl x) ∧ o = .inl (pc + len, ls, .inl x :: st, G, h) := by
  unfold ldI at e0
  split at e0
  · rename_i hc
    cases e0
    exact ⟨_, hc, rfl⟩
  · cases e0
theorem ldL_inv {i len : Nat} {o : OU} (e0 : ldL i len pc ls st G h = some o) : ∃ x : Int, ls.getD i none = some (.inr (.inl x)) ∧ o = .inl (pc + len, ls, .inr (.inl x) :: st, G, h) := by
  unfold ldL at e0
  split at e0
  · rename_i hc
    cases e0
    exact ⟨_, hc, rfl⟩
  · cases e0
theorem ldA_inv {i len : Nat} {o : OU} (e0 : ldA i len pc ls st G h = some o) : ∃ x : Nat, ls.getD i none = some (.inr (.inr (some x))) ∧ o = .inl (pc + len, ls, .inr (.inr (some x)) :: st, G, h) := by
  unfold ldA at e0
  split at e0
  · rename_i hc
    cases e0
    exact ⟨_, hc, rfl⟩
  · cases e0
theorem iincS_inv {i : Nat} {n : Int} {o : OU} (e0 : iincS i n pc ls st G h = some o) : ∃ x : Int, ls.getD i none = some (.inl x) ∧ o = .inl (pc + 3, st1 ls i (.inl (x + n)), st, G, h) := by
  unfold iincS at e0
  split at e0
  · rename_i hc
    cases e0
    exact ⟨_, hc, rfl⟩
  · cases e0
theorem jmp_inv {off : Int} {o : OU} (e0 : jmp pc off ls st G h = some o) : ∃ tgt : Nat, (pc : Int) + off = (tgt : Nat) ∧ o = .inl (tgt, ls, st, G, h) := by
  unfold jmp at e0
  split at e0
  · cases e0
    exact ⟨_, by omega, rfl⟩
  · cases e0
theorem ifS_inv {cd : Jvm.ClassFile.Cond} {off : Int} {o : OU} (e0 : ifS cd off pc ls st G h = some o) : ∃ (x : Int) (st0 : List AV), st = .inl x :: st0 ∧ (-2147483648 ≤ x ∧ x < 2147483648) ∧ (if tst cd x 0 = true then jmp pc off ls st0 G h else nx (pc + 3) ls st0 G h) = some o := by
  unfold ifS at e0
  split at e0
  · split at e0
    · rename_i hc
      exact ⟨_, _, rfl, hc, e0⟩
    · cases e0
  · cases e0
theorem icmpS_inv {cd : Jvm.ClassFile.Cond} {off : Int} {o : OU} (e0 : icmpS cd off pc ls st G h = some o) : ∃ (x y : Int) (st0 : List AV), st = .inl y :: .inl x :: st0 ∧ (((-2147483648 ≤ x ∧ x < 2147483648) ∧ (-2147483648 ≤ y ∧ y < 2147483648)) ∨ x = y) ∧ (if tst cd x y = true then jmp pc off ls st0 G h else nx (pc + 3) ls st0 G h) = some o := by
  unfold icmpS at e0
  split at e0
  · split at e0
    · rename_i hc
      exact ⟨_, _, _, rfl, hc, e0⟩
    · cases e0
  · cases e0
theorem lcmpS_inv {o : OU} (e0 : lcmpS pc ls st G h = some o) : ∃ (x y : Int) (st0 : List AV), st = .inr (.inl y) :: .inr (.inl x) :: st0 ∧ (x = y ∨ ((-9223372036854775808 ≤ x ∧ x < 9223372036854775808) ∧ (-9223372036854775808 ≤ y ∧ y < 9223372036854775808))) ∧ o = .inl (pc + 1, ls, .inl (if x = y then 0 else if y < x then 1 else -1) :: st0, G, h) := by
  unfold lcmpS at e0
  split at e0
  · split at e0
    · rename_i hc
      cases e0
      exact ⟨_, _, _, rfl, Or.inl hc, by rw [if_pos hc]⟩
    · rename_i hn
      split at e0
      · rename_i hc
        cases e0
        exact ⟨_, _, _, rfl, Or.inr hc, by rw [if_neg hn]⟩
      · cases e0
  · cases e0
theorem tabS_inv {df lo hi : Int} {offs : Array Int} {o : OU} (e0 : tabS df lo hi offs pc ls st G h = some o) : ∃ (x : Int) (st0 : List AV), st = .inl x :: st0 ∧ (-2147483648 ≤ x ∧ x < 2147483648) ∧ ((∃ tgt : Nat, (x < lo ∨ hi < x) ∧ (pc : Int) + df = (tgt : Nat) ∧ o = .inl (tgt, ls, st0, G, h)) ∨ ∃ (off : Int) (tgt : Nat), ¬ (x < lo ∨ hi < x) ∧ offs[(x - lo).toNat]? = some off ∧ (pc : Int) + off = (tgt : Nat) ∧ o = .inl (tgt, ls, st0, G, h)) := by
  unfold tabS at e0
  split at e0
  · split at e0
    · rename_i hc
      refine ⟨_, _, rfl, hc, ?_⟩
      split at e0
      · rename_i h1
        obtain ⟨t, u1, u2⟩ := jmp_inv e0
        exact Or.inl ⟨t, h1, u1, u2⟩
      · rename_i h1
        split at e0
        · rename_i off h2
          obtain ⟨t, u1, u2⟩ := jmp_inv e0
          exact Or.inr ⟨off, t, h1, h2, u1, u2⟩
        · cases e0
    · cases e0
  · cases e0
theorem lkpS_inv {df : Int} {ps : Array (Int × Int)} {o : OU} (e0 : lkpS df ps pc ls st G h = some o) : ∃ (x : Int) (st0 : List AV) (tgt : Nat), st = .inl x :: st0 ∧ (-2147483648 ≤ x ∧ x < 2147483648) ∧ (ps.toList.zip (ps.toList.drop 1)).all (fun (a, next) => a.1 < next.1) = true ∧ (pc : Int) + Op.lookupswitch.offset ps.toList df x = (tgt : Nat) ∧ o = .inl (tgt, ls, st0, G, h) := by
  unfold lkpS at e0
  split at e0
  · split at e0
    · rename_i hc
      obtain ⟨t, u1, u2⟩ := jmp_inv e0
      exact ⟨_, _, t, rfl, hc.1, hc.2, u1, u2⟩
    · cases e0
  · cases e0
theorem newaS_inv {kd len : Nat} {r : Int → List (Option Nat)} {o : OU} (e0 : newaS kd pc len r ls st G h = some o) : ∃ (n : Int) (st0 : List AV), st = .inl n :: st0 ∧ (0 ≤ n ∧ n ≤ 1000 ∧ gN G < 900) ∧ o = .inl (pc + len, ls, .inr (.inr (some (gN G))) :: st0, mk G (kd, n.toNat) (r n), clr h (gN G)) := by
  unfold newaS at e0
  split at e0
  · split at e0
    · rename_i hc
      cases e0
      exact ⟨_, _, rfl, hc, rfl⟩
    · cases e0
  · cases e0
theorem getfS_inv {ci k0 : Nat} {o : OU} (e0 : getfS ci k0 pc ls st G h = some o) : ∃ (a : Nat) (v : AV) (st0 : List AV), st = .inr (.inr (some a)) :: st0 ∧ (shp G a = (4 + ci, fN ci) ∧ k0 < fN ci) ∧ (∀ ba, cv ba v = fvl ba G h ci a k0) ∧ o = .inl (pc + 3, ls, v :: st0, G, h) := by
  unfold getfS at e0
  split at e0
  · split at e0
    · rename_i hc
      split at e0
      · rename_i h1
        cases e0
        exact ⟨_, _, _, rfl, hc, fun ba => by rw [fvl_1 h1]; rfl, rfl⟩
      · rename_i h1
        cases e0
        exact ⟨_, _, _, rfl, hc, fun ba => by rw [fvl_2 h1, cv_r], rfl⟩
      · rename_i h1 h2
        cases e0
        refine ⟨_, _, _, rfl, hc, fun ba => ?_, rfl⟩
        unfold fvl
        split
        · exact absurd ‹_› h1
        · exact absurd ‹_› h2
        · rfl
    · cases e0
  · cases e0
/-- what is set by putfield -/
def pOk (G G' : AG) (h h' : AH) (ci k0 a : Nat) (v : AV) : Prop := (fty ci k0 = 0 ∧ (∃ x, v = .inl x ∧ h' = put h a k0 x) ∧ G' = G) ∨ (fty ci k0 = 1 ∧ (∃ x, v = .inr (.inl x) ∧ h' = put h a k0 x) ∧ G' = G) ∨ (fty ci k0 = 2 ∧ (∃ r, v = .inr (.inr (some r)) ∧ G' = srf G a k0 (some r)) ∧ h' = h) ∨ (fty ci k0 = 3 ∧ (∃ x, (x = 0 ∨ x = 1) ∧ v = .inl x ∧ h' = put h a k0 x) ∧ G' = G)
theorem putfS_inv {ci k0 : Nat} {o : OU} (e0 : putfS ci k0 pc ls st G h = some o) : ∃ (a : Nat) (v : AV) (st0 : List AV) (G' : AG) (h' : AH), st = v :: .inr (.inr (some a)) :: st0 ∧ (shp G a = (4 + ci, fN ci) ∧ k0 < fN ci) ∧ pOk G G' h h' ci k0 a v ∧ o = .inl (pc + 3, ls, st0, G', h') := by
  unfold putfS at e0
  split at e0
  · split at e0
    · rename_i hc
      split at e0
      · rename_i h1
        cases e0
        exact ⟨_, _, _, _, _, rfl, hc, Or.inl ⟨h1, ⟨_, rfl, rfl⟩, rfl⟩, rfl⟩
      · rename_i h1
        cases e0
        exact ⟨_, _, _, _, _, rfl, hc, Or.inr (Or.inl ⟨h1, ⟨_, rfl, rfl⟩, rfl⟩), rfl⟩
      · rename_i h1
        cases e0
        exact ⟨_, _, _, _, _, rfl, hc, Or.inr (Or.inr (Or.inl ⟨h1, ⟨_, rfl, rfl⟩, rfl⟩)), rfl⟩
      · rename_i h1
        split at e0
        · rename_i h2
          cases e0
          exact ⟨_, _, _, _, _, rfl, hc, Or.inr (Or.inr (Or.inr ⟨h1, ⟨_, h2, rfl, rfl⟩, rfl⟩)), rfl⟩
        · cases e0
      · cases e0
    · cases e0
  · cases e0
theorem invS_inv {j b virt : Nat} {o : OU} (e0 : invS j b virt pc ls st G h = some o) : (b ≤ st.length ∧ ((st.drop b).map vcat).sum ≤ 8 ∧ rcv virt G (st.take b).getLast? = true) ∧ o = .inr (.inl (j, (st.take b).reverse, (pc + 3, ls, st.drop b, G, h))) := by
  unfold invS at e0
  split at e0
  · rename_i hc
    cases e0
    exact ⟨hc, rfl⟩
  · cases e0
theorem ret1_inv {rk : Nat} {o : OU} (e0 : ret1 rk st = some o) : ∃ x : Int, st = [.inl x] ∧ (rk = 0 ∨ (rk = 1 ∧ (x = 0 ∨ x = 1))) ∧ o = .inr (.inr (some (.inl x))) := by
  unfold ret1 at e0
  split at e0
  · split at e0
    · rename_i hc
      cases e0
      exact ⟨_, rfl, hc, rfl⟩
    · cases e0
  · cases e0
theorem ret2_inv {o : OU} (e0 : ret2 st = some o) : ∃ x : Int, st = [.inr (.inl x)] ∧ o = .inr (.inr (some (.inr (.inl x)))) := by
  unfold ret2 at e0
  split at e0
  · cases e0
    exact ⟨_, rfl, rfl⟩
  · cases e0
theorem ret0_inv {o : OU} (e0 : ret0 st = some o) : st = [] ∧ o = .inr (.inr none) := by
  unfold ret0 at e0
  split at e0
  · cases e0
    exact ⟨rfl, rfl⟩
  · cases e0
theorem step_inv {o : OU} (e0 : step k pc ls st G h = some o) : ∃ (ins : Instr) (a b : Nat) (c : Int), (pc, ins, a, b, c) ∈ P_c k ∧ stepI (P_rk k) ins a b c pc ls st G h = some o := by
  unfold step at e0
  split at e0
  · rename_i ins a b c he
    refine ⟨ins, a, b, c, ?_, e0⟩
    unfold ent at he
    cases hf : (P_c k).find? (fun e => e.1 == pc) with
    | none => rw [hf] at he; cases he
    | some w =>
      rw [hf] at he
      have h1 := List.mem_of_find?_eq_some hf
      have h2 := List.find?_some hf
      obtain ⟨w1, w2⟩ := w
      simp only [Option.map_some, Option.some.injEq] at he
      subst he
      simp only [beq_iff_eq] at h2
      subst h2
      exact h1
  · cases e0
end
