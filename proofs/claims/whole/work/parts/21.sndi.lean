/-! 21: what the reading says, the machine does -/
section
variable {p : Program} {l : Launch} {e : Env} {R : Room} {s : State} {m : MethodId} {args : Array Value} {below : List Frame} {meth : Method} {c : Code} {D : va_G} {cs : CS} {ba : BA} {n0 z0 : Nat} {Q : State → Prop} {k pc : Nat} {ls : LC} {st : List AV} {G : AG} {h : AH}

set_option maxHeartbeats 4000000 in
theorem ret_inv {r : Option AV} (hk : k < 212) (hall : ∀ k, k < 212 → (P_c k).all (okE k) = true) (e0 : step k pc ls st G h = some (.inr (.inr r))) : (∃ x : Int, st = [.inl x] ∧ r = some (.inl x) ∧ decode (P_b k) pc = .ok (.ireturn, 1) ∧ (P_rk k = 0 ∨ (P_rk k = 1 ∧ (x = 0 ∨ x = 1)))) ∨ (∃ x : Int, st = [.inr (.inl x)] ∧ r = some (.inr (.inl x)) ∧ decode (P_b k) pc = .ok (.lreturn, 1) ∧ P_rk k = 2) ∨ (st = [] ∧ r = none ∧ decode (P_b k) pc = .ok (.return_, 1) ∧ P_rk k = 3) := by
  generalize ho : (Sum.inr (Sum.inr r) : OU) = o at e0
  obtain ⟨ins, a, b, cc, hmem, e1⟩ := step_inv e0
  obtain ⟨⟨len, hds, hlen⟩, hl0⟩ := okE_dec (List.all_eq_true.mp (hall k hk) _ hmem)
  cases ins with
  | ireturn =>
      have hd := hds
      rw [hlen.resolve_left (fun z => by cases z)] at hd
      obtain ⟨x, h1, h2, rfl⟩ := ret1_inv e1
      cases ho
      exact Or.inl ⟨x, h1, rfl, hd, h2⟩
  | lreturn =>
      have hd := hds
      rw [hlen.resolve_left (fun z => by cases z)] at hd
      simp only [stepI] at e1
      split at e1
      · rename_i hr
        obtain ⟨x, h1, rfl⟩ := ret2_inv e1
        cases ho
        exact Or.inr (Or.inl ⟨x, h1, rfl, hd, hr⟩)
      · cases e1
  | return_ =>
      have hd := hds
      rw [hlen.resolve_left (fun z => by cases z)] at hd
      simp only [stepI] at e1
      split at e1
      · rename_i hr
        obtain ⟨h1, rfl⟩ := ret0_inv e1
        cases ho
        exact Or.inr (Or.inr ⟨h1, rfl, hd, hr⟩)
      · cases e1
  | invokestatic i =>
      simp only [stepI] at e1
      split at e1
      · obtain ⟨_, _, _, _, _, _, _, _, rfl⟩ := copS_inv e1
        cases ho
      · obtain ⟨_, rfl⟩ := invS_inv e1
        cases ho
  | invokevirtual i =>
      obtain ⟨_, rfl⟩ := invS_inv e1
      cases ho
  | invokespecial i =>
      simp only [stepI] at e1
      split at e1
      · obtain ⟨_, _, _, _, rfl⟩ := oiS_inv e1
        cases ho
      · obtain ⟨_, rfl⟩ := invS_inv e1
        cases ho
  | _ =>
      exfalso
      subst ho
      revert e1
      first
        | (intro e1; simp [stepI] at e1; done)
        | (intro e1; simp only [stepI] at e1; first | (obtain ⟨_, _, q2⟩ := ldI_inv e1; cases q2; done) | (obtain ⟨_, _, q2⟩ := ldL_inv e1; cases q2; done) | (obtain ⟨_, _, q2⟩ := ldA_inv e1; cases q2; done) | (obtain ⟨_, _, _, _, q2⟩ := stI_inv e1; cases q2; done) | (obtain ⟨_, _, _, _, q2⟩ := stL_inv e1; cases q2; done) | (obtain ⟨_, _, _, _, q2⟩ := stA_inv e1; cases q2; done) | (obtain ⟨_, _, q2⟩ := iincS_inv e1; cases q2; done) | (obtain ⟨_, _, _, _, q2⟩ := binI_inv e1; cases q2; done) | (obtain ⟨_, _, _, _, q2⟩ := binL_inv e1; cases q2; done) | (obtain ⟨_, _, _, _, _, q2⟩ := divI_inv e1; cases q2; done) | (obtain ⟨_, _, _, _, _, q2⟩ := divL_inv e1; cases q2; done) | (obtain ⟨_, _, _, q2⟩ := lnegS_inv e1; cases q2; done) | (obtain ⟨_, _, _, _, _, q2⟩ := lcmpS_inv e1; cases q2; done) | (obtain ⟨_, _, _, _, q2⟩ := i2lS_inv e1; cases q2; done) | (obtain ⟨_, _, _, q2⟩ := l2iS_inv e1; cases q2; done) | (obtain ⟨_, _, _, q2⟩ := i2bS_inv e1; cases q2; done) | (obtain ⟨_, _, _, _, q2⟩ := dupS_inv e1; cases q2; done) | (obtain ⟨_, _, _, _, _, q2⟩ := dup2S_inv e1; cases q2; done) | (obtain ⟨_, _, _, _, q2⟩ := popS_inv e1; cases q2; done) | (obtain ⟨_, _, q2⟩ := jmp_inv e1; cases q2; done) | (obtain ⟨_, _, _, _, q2⟩ := ifS_inv e1; split at q2 <;> first | (obtain ⟨_, _, q3⟩ := jmp_inv q2; cases q3; done) | (cases q2; done)) | (obtain ⟨_, _, _, _, _, q2⟩ := icmpS_inv e1; split at q2 <;> first | (obtain ⟨_, _, q3⟩ := jmp_inv q2; cases q3; done) | (cases q2; done)) | (obtain ⟨_, _, _, _, ⟨_, _, _, q2⟩ | ⟨_, _, _, _, _, q2⟩⟩ := tabS_inv e1 <;> cases q2; done) | (obtain ⟨_, _, _, _, _, _, _, q2⟩ := lkpS_inv e1; cases q2; done) | (obtain ⟨_, _, _, _, _, q2⟩ := aldS_inv e1; cases q2; done) | (obtain ⟨_, _, _, _, _, _, q2⟩ := astS_inv e1; cases q2; done) | (obtain ⟨_, _, _, _, _, q2⟩ := aaldS_inv e1; cases q2; done) | (obtain ⟨_, _, _, _, _, _, q2⟩ := aastS_inv e1; cases q2; done) | (obtain ⟨_, _, _, _, q2⟩ := alenS_inv e1; cases q2; done) | (obtain ⟨_, _, _, _, _, _, q2⟩ := getfS_inv e1; cases q2; done) | (obtain ⟨_, _, _, _, _, _, _, _, q2⟩ := putfS_inv e1; cases q2; done) | (split at e1 <;> first | (cases e1; done) | (obtain ⟨_, _, _, _, q2⟩ := newaS_inv e1; cases q2; done) | (split at e1 <;> first | (cases e1; done) | (obtain ⟨_, _, _, _, q2⟩ := newaS_inv e1; cases q2; done))) | (cases e1; done))
theorem end_met {r : Option AV} (C : CT k p s m args meth c D cs ba n0) (hk : k < 212) (hall : ∀ k, k < 212 → (P_c k).all (okE k) = true) (e0 : step k pc ls st G h = some (.inr (.inr r))) : GO p l e R s m args below meth c D cs ba n0 z0 (MQ below (QCt D cs ba r G h) args s (gN G - n0) (gZ G - z0) (AA ba)) pc ls st G h := by
  have hri := ret_inv hk hall e0
  obtain ⟨hrk, -, -, -⟩ := rk_ok hk
  obtain ⟨hx, hb, hr, hml, hown, hts, hlk, hnm, hN, hK, hs0⟩ := C
  intro arr H locs hL hP hS hF hgg hn hz
  rcases hri with ⟨x, rfl, rfl, hd, hc | ⟨hc, h01⟩⟩ | ⟨x, rfl, rfl, hd, hc⟩ | ⟨rfl, rfl, hd, hc⟩
  · rw [hc] at hrk
    exact W.iret (v := Int32.ofInt x) hx hb (hr.trans hrk) (fun t ht hW => ⟨rfl, by rw [ht]; exact hP, hS.F ht⟩) hS.2.2 hd hlk
  · rw [hc] at hrk
    exact W.zret (v := Int32.ofInt x) hx hb (hr.trans hrk) (by rcases h01 with rfl | rfl <;> decide) (fun t ht hW => ⟨rfl, by rw [ht]; exact hP, hS.F ht⟩) hS.2.2 hd hlk
  · rw [hc] at hrk
    exact W.lret (v := Int64.ofInt x) hx hb (hr.trans hrk) (fun t ht hW => ⟨rfl, by rw [ht]; exact hP, hS.F ht⟩) hS.2.2 hd hlk
  · rw [hc] at hrk
    exact W.vret hx hb (hr.trans hrk) (fun t ht hW => ⟨rfl, by rw [ht]; exact hP, hS.F ht⟩) hS.2.2 hd hlk
/-- the list of cells grows, the tables stay -/
def GH (G : AG) (h : AH) (G' : AG) (h' : AH) : Prop := GM G G' ∧ ∀ a, 1000 ≤ a → h' a = h a
theorem run1_GH {cl : Nat → List AV → AG → AH → Option RS} (hcl : ∀ j as G h r G' h', cl j as G h = some (r, G', h') → okG G → GH G h G' h') : ∀ (n pc : Nat) (ls : LC) (st : List AV) (G : AG) (h : AH) (r : Option AV) (G' : AG) (h' : AH), run1 cl n k pc ls st G h = some (r, G', h') → okG G → GH G h G' h' := by
  intro n
  induction n with
  | zero => intro pc ls st G h r G' h' e1 _; simp [run1] at e1
  | succ n ih =>
    intro pc ls st G h r G' h' e1 hok
    unfold run1 at e1
    cases hs : step k pc ls st G h with
    | none => rw [hs] at e1; cases e1
    | some w =>
      rw [hs] at e1
      have mo := step_MO hs
      have ho := step_HO hok hs
      rcases w with ⟨pc1, ls1, st1, G1, h1⟩ | ⟨j, as, pc1, ls1, st1, G1, h1⟩ | r1
      · obtain ⟨k1, k2⟩ := ih _ _ _ _ _ _ _ _ e1 (mo.2.2.2 hok)
        exact ⟨GM_t mo.2 k1, fun a ha => (k2 a ha).trans (ho a ha)⟩
      · dsimp only at e1
        obtain ⟨rfl, rfl⟩ := mo
        have ho2 : h1 = h := ho
        subst ho2
        cases hcc : cl j as G1 h1 with
        | none => rw [hcc] at e1; cases e1
        | some w =>
          obtain ⟨r2, G2, h2⟩ := w
          rw [hcc] at e1
          obtain ⟨c1, c2⟩ := hcl _ _ _ _ _ _ _ hcc hok
          obtain ⟨k1, k2⟩ := ih _ _ _ _ _ _ _ _ e1 (c1.2.2 hok)
          exact ⟨GM_t c1 k1, fun a ha => (k2 a ha).trans (c2 a ha)⟩
      · cases e1
        exact ⟨GM_r, fun _ _ => rfl⟩
theorem runD_GH {F : Nat} : ∀ (d j : Nat) (as : List AV) (G : AG) (h : AH) (r : Option AV) (G' : AG) (h' : AH), runD F d j as G h = some (r, G', h') → okG G → GH G h G' h' := by
  intro d
  induction d with
  | zero => intro j as G h r G' h' e1 _; simp [runD] at e1
  | succ d ih =>
    intro j as G h r G' h' e1 hok
    simp only [runD] at e1
    split at e1
    · exact run1_GH ih _ _ _ _ _ _ _ _ _ e1 hok
    · cases e1
set_option maxRecDepth 100000 in
theorem run_lt {cl : Nat → List AV → AG → AH → Option RS} {n : Nat} {o : RS} (e1 : run1 cl n k pc ls st G h = some o) : k < 212 := by
  cases n with
  | zero => simp [run1] at e1
  | succ n =>
    rcases Nat.lt_or_ge k 212 with q | q
    · exact q
    · unfold run1 at e1
      have hn : step k pc ls st G h = none := by
        have hp : P_c k = [] := by
          unfold P_c
          rw [List.getD_eq_getElem?_getD, List.getElem?_eq_none (by exact q)]
          rfl
        unfold step ent
        rw [hp]
        rfl
      rw [hn] at e1
      cases e1
theorem run_snd {F d : Nat} (C : CT k p s m args meth c D cs ba n0) (hk : k < 212) (hall : ∀ k, k < 212 → (P_c k).all (okE k) = true) (hjp : ∀ k, k < 212 → ∀ q ∈ P_c k, hasJ q.1 q.2.1) (hcl : ∀ j as G h r G' h', runD F d j as G h = some (r, G', h') → okG G → CO l D cs ba d j as G h r G' h') (hRd : d + 1 ≤ R.frames ∧ 40 * d + 40 ≤ R.locals) (r : Option AV) (G' : AG) (h' : AH) (hR1 : gN G' - n0 ≤ R.cells) (hR2 : gZ G' - z0 ≤ R.slots) (hend : ∀ pc ls st, step k pc ls st G' h' = some (.inr (.inr r)) → GO p l e R s m args below meth c D cs ba n0 z0 Q pc ls st G' h') :
    ∀ (n pc : Nat) (ls : LC) (st : List AV) (G : AG) (h : AH), run1 (runD F d) n k pc ls st G h = some (r, G', h') → okG G → ls.length = P_l k → GO p l e R s m args below meth c D cs ba n0 z0 Q pc ls st G h := by
  intro n
  induction n with
  | zero => intro pc ls st G h e1 _ _; simp [run1] at e1
  | succ n ih =>
    intro pc ls st G h e1 hok hll
    unfold run1 at e1
    cases hs : step k pc ls st G h with
    | none => rw [hs] at e1; cases e1
    | some w =>
      rw [hs] at e1
      have mo := step_MO hs
      have ho := step_HO hok hs
      rcases w with ⟨pc1, ls1, st1, G1, h1⟩ | ⟨j, as, pc1, ls1, st1, G1, h1⟩ | r1
      · have hok1 := mo.2.2.2 hok
        have gh := run1_GH (runD_GH d) _ _ _ _ _ _ _ _ _ e1 hok1
        have g1 := gh.1.1
        have g2 := gh.1.2.1
        exact snd_step C hk hall hjp hll ⟨by omega, by omega⟩ hok hs ⟨ih _ _ _ _ _ e1 hok1 (mo.1.trans hll), by omega, by omega⟩
      · dsimp only at e1
        obtain ⟨rfl, rfl⟩ := mo
        have ho2 : h1 = h := ho
        subst ho2
        cases hcc : runD F d j as G1 h1 with
        | none => rw [hcc] at e1; cases e1
        | some w =>
          obtain ⟨r2, G2, h2⟩ := w
          rw [hcc] at e1
          obtain ⟨c1, c2⟩ := runD_GH d _ _ _ _ _ _ _ hcc hok
          have gh := run1_GH (runD_GH d) _ _ _ _ _ _ _ _ _ e1 (c1.2.2 hok)
          have g1 := gh.1.1
          have g2 := gh.1.2.1
          exact snd_call C hk hall hll hs (hcl _ _ _ _ _ _ _ hcc hok) c1 c2 hRd ⟨by omega, by omega⟩ (ih _ _ _ _ _ e1 (c1.2.2 hok) hll)
      · cases e1
        exact hend _ _ _ hs
theorem lay_len : ∀ as : List AV, (lg_sl (as.map (cv ba))).length = (lay as).length
  | [] => rfl
  | v :: t => by
    have ih := lay_len t
    unfold lg_sl at ih ⊢
    rw [List.map_cons, List.flatMap_cons, List.length_append, ih]
    rcases v with x | x | r
    · show _ + _ = (some (Sum.inl x) :: lay t).length
      simp [cv, Value.category]
      omega
    · show _ + _ = (some (Sum.inr (Sum.inl x)) :: none :: lay t).length
      simp [cv, Value.category]
      omega
    · show _ + _ = (some (Sum.inr (Sum.inr r)) :: lay t).length
      cases r <;> simp [cv, Value.category] <;> omega
theorem lay_args : ∀ (as : List AV) (q i : Nat) (v : AV), (lay as).getD i none = some v → (q + i, cv ba v) ∈ lv_args q (as.map (cv ba))
  | [], q, i, v, e1 => by simp [lay] at e1
  | w :: t, q, i, v, e1 => by
    rw [List.map_cons]
    unfold lv_args
    rcases w with x | x | r
    · have e2 : ((some (Sum.inl x) :: lay t) : LC).getD i none = some v := e1
      cases i with
      | zero =>
        cases e2
        exact List.mem_cons_self
      | succ i =>
        have h1 := lay_args t (q + 1) i v (by simpa using e2)
        refine List.mem_cons_of_mem _ ?_
        rw [if_neg (by simp [cv, Value.category]), show q + (i + 1) = q + 1 + i by omega]
        exact h1
    · have e2 : ((some (Sum.inr (Sum.inl x)) :: none :: lay t) : LC).getD i none = some v := e1
      cases i with
      | zero =>
        cases e2
        exact List.mem_cons_self
      | succ i =>
        cases i with
        | zero => cases e2
        | succ i =>
          have h1 := lay_args t (q + 2) i v (by simpa using e2)
          refine List.mem_cons_of_mem _ ?_
          rw [if_pos (by simp [cv, Value.category]), show q + (i + 1 + 1) = q + 2 + i by omega]
          exact h1
    · have e2 : ((some (Sum.inr (Sum.inr r)) :: lay t) : LC).getD i none = some v := e1
      cases i with
      | zero =>
        cases e2
        exact List.mem_cons_self
      | succ i =>
        have h1 := lay_args t (q + 1) i v (by simpa using e2)
        refine List.mem_cons_of_mem _ ?_
        rw [if_neg (by cases r <;> simp [cv, Value.category]), show q + (i + 1) = q + 1 + i by omega]
        exact h1
theorem ini_len {j : Nat} {as : List AV} (hl : (lay as).length ≤ P_l j) : (ini j as).length = P_l j := by
  unfold ini
  rw [List.length_append, List.length_replicate]
  omega
theorem ini_LV {j : Nat} {as : List AV} (hl : (lay as).length ≤ P_l j) : LV ba ((lg_sl (as.map (cv ba)) ++ List.replicate (P_l j - (lg_sl (as.map (cv ba))).length) Slot.unset).toArray) (ini j as) := by
  refine LV_of (lv_entry (as.map (cv ba)) (n := P_l j) (by rw [lay_len]; exact hl)) (ini_len hl).symm (fun i v hv => ?_)
  have hv2 : (lay as).getD i none = some v := by
    unfold ini at hv
    rw [List.getD_eq_getElem?_getD, List.getElem?_append] at hv
    split at hv
    · rw [List.getD_eq_getElem?_getD]
      exact hv
    · rw [List.getElem?_replicate] at hv
      split at hv <;> cases hv
  have := lay_args (ba := ba) as 0 i v hv2
  rw [Nat.zero_add] at this
  exact this
set_option maxHeartbeats 1000000 in
theorem snd_all (hall : ∀ k, k < 212 → (P_c k).all (okE k) = true) (hjp : ∀ k, k < 212 → ∀ q ∈ P_c k, hasJ q.1 q.2.1) {F : Nat} : ∀ (d j : Nat) (as : List AV) (G : AG) (h : AH) (r : Option AV) (G' : AG) (h' : AH), runD F d j as G h = some (r, G', h') → okG G → CO l D cs ba d j as G h r G' h' := by
  intro d
  induction d with
  | zero => intro j as G h r G' h' e1 _; simp [runD] at e1
  | succ d ih =>
    intro j as G h r G' h' e1 hok
    simp only [runD] at e1
    split at e1
    · rename_i hl
      have hj := run_lt e1
      unfold CO
      refine va_MetF (cc := P_b j) (maxL := P_l j) (ret := P_r j) (rk_ok hj).2.1 rfl ?_
      intro p e s m args below meth c s₁ B hml hv
      obtain ⟨rfl, hsz, hP, hK, hN, hF⟩ := hv
      have C : CT j p s m (as.map (cv ba)).toArray meth c D cs ba (gN G) := ⟨B.exec, B.bytes, B.returns, hml, by rw [← (rk_ok hj).2.2.1]; exact findClass_of_methodNamed B.named, fun w hw => atoms_spec (ws := wsM j) B.pre w (List.mem_cons_of_mem _ hw), B.notSynchronized, fun hq => ((name_of_methodNamed B.named B.method).1).trans hq, hN, hK, hsz⟩
      rw [lg_entry_eq]
      have key := run_snd (R := rmM (d + 1) (gN G' - gN G) (gZ G' - gZ G)) (z0 := gZ G) (Q := MQ below (QCt D cs ba r G' h') (as.map (cv ba)).toArray s (gN G' - gN G) (gZ G' - gZ G) (AA ba)) (l := l) (e := e) (below := below) C hj hall hjp ih ⟨Nat.le_refl _, by show 40 * d + 40 ≤ 40 * (d + 1); omega⟩ r G' h' (Nat.le_refl _) (Nat.le_refl _) (fun pc ls st e2 => end_met C hj hall e2) F 0 (ini j as) [] G h e1 hok (ini_len hl)
      have q := key _ s.heap [] (ini_LV hl) hP va_S.rf hF hok (Nat.le_refl _) (Nat.le_refl _)
      rw [Nat.sub_self, Nat.sub_self] at q
      exact q
    · cases e1
end
