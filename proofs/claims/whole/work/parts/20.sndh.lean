/-! 20: the whole: what the reading says, the machine does -/
section
variable {p : Program} {l : Launch} {e : Env} {R : Room} {s : State} {m : MethodId} {args : Array Value} {below : List Frame} {meth : Method} {c : Code} {D : va_G} {cs : CS} {ba : BA} {n0 z0 : Nat} {Q : State → Prop} {k pc : Nat} {ls : LC} {st : List AV} {G : AG} {h : AH}

def HO (h : AH) (o : OU) : Prop := match o with
  | .inl (_, _, _, _, h') => ∀ a, 1000 ≤ a → h' a = h a
  | .inr (.inl (_, _, (_, _, _, _, h'))) => h' = h
  | .inr (.inr _) => True
set_option maxHeartbeats 4000000 in
theorem step_HO {o : OU} (hg : okG G) (e0 : step k pc ls st G h = some o) : HO h o := by
  obtain ⟨ins, a, b, c, _, e1⟩ := step_inv e0
  have hlo := hg.1
  cases ins with
  | iconst n =>
      cases e1
      exact fun _ _ => rfl
  | lconst n =>
      cases e1
      exact fun _ _ => rfl
  | ldc i =>
      cases e1
      exact fun _ _ => rfl
  | ldc2_w i =>
      cases e1
      exact fun _ _ => rfl
  | getstatic i =>
      cases e1
      exact fun _ _ => rfl
  | bipush n =>
      simp only [stepI] at e1
      split at e1
      · cases e1
        exact fun _ _ => rfl
      · cases e1
  | sipush n =>
      simp only [stepI] at e1
      split at e1
      · cases e1
        exact fun _ _ => rfl
      · cases e1
  | iload_n i =>
      obtain ⟨x, _, rfl⟩ := ldI_inv e1
      exact fun _ _ => rfl
  | iload i =>
      obtain ⟨x, _, rfl⟩ := ldI_inv e1
      exact fun _ _ => rfl
  | lload_n i =>
      obtain ⟨x, _, rfl⟩ := ldL_inv e1
      exact fun _ _ => rfl
  | lload i =>
      obtain ⟨x, _, rfl⟩ := ldL_inv e1
      exact fun _ _ => rfl
  | aload_n i =>
      obtain ⟨x, _, rfl⟩ := ldA_inv e1
      exact fun _ _ => rfl
  | aload i =>
      obtain ⟨x, _, rfl⟩ := ldA_inv e1
      exact fun _ _ => rfl
  | istore_n i =>
      obtain ⟨x, st0, _, _, rfl⟩ := stI_inv e1
      exact fun _ _ => rfl
  | istore i =>
      obtain ⟨x, st0, _, _, rfl⟩ := stI_inv e1
      exact fun _ _ => rfl
  | lstore_n i =>
      obtain ⟨x, st0, _, _, rfl⟩ := stL_inv e1
      exact fun _ _ => rfl
  | lstore i =>
      obtain ⟨x, st0, _, _, rfl⟩ := stL_inv e1
      exact fun _ _ => rfl
  | astore_n i =>
      obtain ⟨x, st0, _, _, rfl⟩ := stA_inv e1
      exact fun _ _ => rfl
  | astore i =>
      obtain ⟨x, st0, _, _, rfl⟩ := stA_inv e1
      exact fun _ _ => rfl
  | iinc i n =>
      obtain ⟨x, _, rfl⟩ := iincS_inv e1
      exact fun _ _ => rfl
  | iadd =>
      obtain ⟨x, y, st0, _, rfl⟩ := binI_inv e1
      exact fun _ _ => rfl
  | isub =>
      obtain ⟨x, y, st0, _, rfl⟩ := binI_inv e1
      exact fun _ _ => rfl
  | imul =>
      obtain ⟨x, y, st0, _, rfl⟩ := binI_inv e1
      exact fun _ _ => rfl
  | iand =>
      obtain ⟨x, y, st0, _, rfl⟩ := binI_inv e1
      exact fun _ _ => rfl
  | ior =>
      obtain ⟨x, y, st0, _, rfl⟩ := binI_inv e1
      exact fun _ _ => rfl
  | ixor =>
      obtain ⟨x, y, st0, _, rfl⟩ := binI_inv e1
      exact fun _ _ => rfl
  | ishl =>
      obtain ⟨x, y, st0, _, rfl⟩ := binI_inv e1
      exact fun _ _ => rfl
  | ishr =>
      obtain ⟨x, y, st0, _, rfl⟩ := binI_inv e1
      exact fun _ _ => rfl
  | ladd =>
      obtain ⟨x, y, st0, _, rfl⟩ := binL_inv e1
      exact fun _ _ => rfl
  | lsub =>
      obtain ⟨x, y, st0, _, rfl⟩ := binL_inv e1
      exact fun _ _ => rfl
  | lmul =>
      obtain ⟨x, y, st0, _, rfl⟩ := binL_inv e1
      exact fun _ _ => rfl
  | idiv =>
      obtain ⟨x, y, st0, _, _, rfl⟩ := divI_inv e1
      exact fun _ _ => rfl
  | irem =>
      obtain ⟨x, y, st0, _, _, rfl⟩ := divI_inv e1
      exact fun _ _ => rfl
  | ldiv =>
      obtain ⟨x, y, st0, _, _, rfl⟩ := divL_inv e1
      exact fun _ _ => rfl
  | lrem =>
      obtain ⟨x, y, st0, _, _, rfl⟩ := divL_inv e1
      exact fun _ _ => rfl
  | lneg =>
      obtain ⟨x, st0, _, rfl⟩ := lnegS_inv e1
      exact fun _ _ => rfl
  | lcmp =>
      obtain ⟨x, y, st0, _, _, rfl⟩ := lcmpS_inv e1
      exact fun _ _ => rfl
  | i2l =>
      obtain ⟨x, st0, _, _, rfl⟩ := i2lS_inv e1
      exact fun _ _ => rfl
  | l2i =>
      obtain ⟨x, st0, _, rfl⟩ := l2iS_inv e1
      exact fun _ _ => rfl
  | i2b =>
      obtain ⟨x, st0, _, rfl⟩ := i2bS_inv e1
      exact fun _ _ => rfl
  | dup =>
      obtain ⟨x, st0, _, _, rfl⟩ := dupS_inv e1
      exact fun _ _ => rfl
  | dup2 =>
      obtain ⟨x, y, st0, _, _, rfl⟩ := dup2S_inv e1
      exact fun _ _ => rfl
  | pop =>
      obtain ⟨x, st0, _, _, rfl⟩ := popS_inv e1
      exact fun _ _ => rfl
  | ifCond cd off =>
      obtain ⟨x, st0, _, _, e2⟩ := ifS_inv e1
      split at e2
      · obtain ⟨t, _, rfl⟩ := jmp_inv e2
        exact fun _ _ => rfl
      · cases e2
        exact fun _ _ => rfl
  | if_icmp cd off =>
      obtain ⟨x, y, st0, _, _, e2⟩ := icmpS_inv e1
      split at e2
      · obtain ⟨t, _, rfl⟩ := jmp_inv e2
        exact fun _ _ => rfl
      · cases e2
        exact fun _ _ => rfl
  | goto off =>
      obtain ⟨t, _, rfl⟩ := jmp_inv e1
      exact fun _ _ => rfl
  | tableswitch df lo hi offs =>
      obtain ⟨x, st0, _, _, ⟨t, _, _, rfl⟩ | ⟨off, t, _, _, _, rfl⟩⟩ := tabS_inv e1 <;> exact fun _ _ => rfl
  | lookupswitch df ps =>
      obtain ⟨x, st0, t, _, _, _, _, rfl⟩ := lkpS_inv e1
      exact fun _ _ => rfl
  | iaload =>
      obtain ⟨i, a, st0, _, _, rfl⟩ := aldS_inv e1
      exact fun _ _ => rfl
  | baload =>
      obtain ⟨i, a, st0, _, _, rfl⟩ := aldS_inv e1
      exact fun _ _ => rfl
  | aaload =>
      obtain ⟨i, a, st0, _, _, rfl⟩ := aaldS_inv e1
      exact fun _ _ => rfl
  | iastore =>
      obtain ⟨x, i, a2, st0, _, hv, rfl⟩ := astS_inv e1
      exact fun a3 h3 => put_ne (by omega)
  | bastore =>
      obtain ⟨x, i, a2, st0, _, hv, rfl⟩ := astS_inv e1
      exact fun a3 h3 => put_ne (by omega)
  | aastore =>
      obtain ⟨b, i, a, st0, _, _, rfl⟩ := aastS_inv e1
      exact fun _ _ => rfl
  | arraylength =>
      obtain ⟨a, st0, _, _, rfl⟩ := alenS_inv e1
      exact fun _ _ => rfl
  | newarray t =>
      simp only [stepI] at e1
      split at e1
      · obtain ⟨n, st0, _, hb, rfl⟩ := newaS_inv e1
        exact fun a3 h3 => clr_ne (by omega)
      · split at e1
        · obtain ⟨n, st0, _, hb, rfl⟩ := newaS_inv e1
          exact fun a3 h3 => clr_ne (by omega)
        · cases e1
  | anewarray i =>
      simp only [stepI] at e1
      split at e1
      · obtain ⟨n, st0, _, hb, rfl⟩ := newaS_inv e1
        exact fun a3 h3 => clr_ne (by omega)
      · cases e1
  | new i =>
      simp only [stepI] at e1
      split at e1
      · rename_i hb
        cases e1
        exact fun a3 h3 => clr_ne (by omega)
      · cases e1
  | getfield i =>
      obtain ⟨a, v, st0, _, _, _, rfl⟩ := getfS_inv e1
      exact fun _ _ => rfl
  | putfield i =>
      obtain ⟨a2, v, st0, G2, h2, _, hs, hp, rfl⟩ := putfS_inv e1
      have hlt := shp_lt (G := G) (a := a2) (n := 4 + a) (by rw [hs.1]) (by
        intro q
        have h1 := hs.2
        unfold fN at h1
        rw [List.getD_eq_getElem?_getD, List.getElem?_eq_none (by simp; omega)] at h1
        simp at h1)
      rcases hp with ⟨_, ⟨x, _, rfl⟩, _⟩ | ⟨_, ⟨x, _, rfl⟩, _⟩ | ⟨_, _, rfl⟩ | ⟨_, ⟨x, _, _, rfl⟩, _⟩
      · exact fun a3 h3 => put_ne (by omega)
      · exact fun a3 h3 => put_ne (by omega)
      · exact fun _ _ => rfl
      · exact fun a3 h3 => put_ne (by omega)
  | invokestatic i =>
      simp only [stepI] at e1
      split at e1
      · obtain ⟨n, dp, sp, a2, b2, st0, _, hv, rfl⟩ := copS_inv e1
        intro a3 h3
        funext j
        dsimp only
        rw [if_neg (fun q => by omega)]
      · obtain ⟨_, rfl⟩ := invS_inv e1
        exact rfl
  | invokevirtual i =>
      obtain ⟨_, rfl⟩ := invS_inv e1
      exact rfl
  | invokespecial i =>
      simp only [stepI] at e1
      split at e1
      · obtain ⟨a, st0, _, _, rfl⟩ := oiS_inv e1
        exact fun _ _ => rfl
      · obtain ⟨_, rfl⟩ := invS_inv e1
        exact rfl
  | ireturn =>
      obtain ⟨x, _, _, rfl⟩ := ret1_inv e1
      trivial
  | lreturn =>
      simp only [stepI] at e1
      split at e1
      · obtain ⟨x, _, rfl⟩ := ret2_inv e1
        trivial
      · cases e1
  | return_ =>
      simp only [stepI] at e1
      split at e1
      · obtain ⟨_, rfl⟩ := ret0_inv e1
        trivial
      · cases e1
  | _ => simp [stepI] at e1
theorem all_k {P : Nat → Bool} (h : (List.range 212).all P = true) : ∀ k, k < 212 → P k = true := fun k hk => List.all_eq_true.mp h k (List.mem_range.mpr hk)
theorem rk_ok0 : (List.range 212).all (fun k => decide (P_r k = match P_rk k with | 0 => some .int | 1 => some .boolean | 2 => some .long | _ => none) && decide (plainFor (P_y k) = true ∧ (P_y k).cls = P_o k ∧ P_rk k ≤ 3)) = true := by decide +kernel
theorem rk_ok (hk : k < 212) : (P_r k = match P_rk k with | 0 => some .int | 1 => some .boolean | 2 => some .long | _ => none) ∧ plainFor (P_y k) = true ∧ (P_y k).cls = P_o k ∧ P_rk k ≤ 3 := by
  have := all_k rk_ok0 k hk
  rw [Bool.and_eq_true, decide_eq_true_eq, decide_eq_true_eq] at this
  exact ⟨this.1, this.2⟩
set_option maxHeartbeats 4000000 in
theorem snd_call {d j : Nat} {as : List AV} {pc' : Nat} {ls' : LC} {st' : List AV} {G' : AG} {h' : AH} {r : Option AV} {G2 : AG} {h2 : AH} (C : CT k p s m args meth c D cs ba n0) (hk : k < 212) (hall : ∀ k, k < 212 → (P_c k).all (okE k) = true) (hll : ls.length = P_l k) (e0 : step k pc ls st G h = some (.inr (.inl (j, as, (pc', ls', st', G', h'))))) (hM : CO l D cs ba d j as G h r G2 h2) (hGM : GM G G2) (hh2 : ∀ a, 1000 ≤ a → h2 a = h a) (hRd : d + 1 ≤ R.frames ∧ 40 * d + 40 ≤ R.locals) (hRc : gN G2 - n0 ≤ R.cells ∧ gZ G2 - z0 ≤ R.slots) (kk : GO p l e R s m args below meth c D cs ba n0 z0 Q pc' ls' (pushR r st') G2 h2) : GO p l e R s m args below meth c D cs ba n0 z0 Q pc ls st G h := by
  generalize ho : (Sum.inr (Sum.inl (j, as, (pc', ls', st', G', h'))) : OU) = o at e0
  obtain ⟨ins, a, b, cc, hmem, e1⟩ := step_inv e0
  obtain ⟨⟨len, hds, hlen⟩, hl0⟩ := okE_dec (List.all_eq_true.mp (hall k hk) _ hmem)
  have hst : ((st.take b).reverse).reverse ++ st.drop b = st := by simp
  cases ins with
  | invokestatic i =>
      have hd := hds
      rw [hlen.resolve_left (fun z => by cases z)] at hd
      simp only [stepI] at e1
      split at e1
      · obtain ⟨_, _, _, _, _, _, _, _, rfl⟩ := copS_inv e1
        cases ho
      · rename_i hne
        obtain ⟨hv, rfl⟩ := invS_inv e1
        cases ho
        simp only [okL, if_neg hne, Bool.and_eq_true, Bool.or_eq_true, decide_eq_true_eq] at hl0
        have key := s_invS C hd hll hl0.1.1 hM hGM hh2 hRd ⟨hv.2.1, hRc.1, hRc.2⟩ (by simp; omega) (inW_AWS hl0.1.2) (hl0.2.elim Or.inl (fun z => Or.inr (inW_AWS z))) kk
        rw [hst] at key
        exact key
  | invokevirtual i =>
      have hd := hds
      rw [hlen.resolve_left (fun z => by cases z)] at hd
      obtain ⟨hv, rfl⟩ := invS_inv e1
      cases ho
      simp only [okL, Bool.and_eq_true, decide_eq_true_eq] at hl0
      obtain ⟨⟨⟨⟨⟨c1, c2⟩, c3⟩, c4⟩, c5⟩, c6⟩ := hl0
      have hrv := hv.2.2
      unfold rcv at hrv
      rw [if_neg (by omega)] at hrv
      have hlen2 : ((st.take b).reverse).length = b := by simp; omega
      rw [← List.head?_reverse] at hrv
      cases hh : (st.take b).reverse with
      | nil => rw [hh] at hlen2; simp at hlen2; omega
      | cons x t =>
        rw [hh] at hrv hlen2 hM
        rw [List.head?_cons] at hrv
        split at hrv
        · rename_i o0 ho0
          cases ho0
          rw [decide_eq_true_eq] at hrv
          have key := s_invV C hd hll c1 hM hGM hh2 hRd ⟨hv.2.1, hRc.1, hRc.2⟩ rfl (by simp at hlen2; omega) c5.2 (by rw [hrv]) c5.1 (inW_AWS c3) (inW_AWS c4) (inW_AWS c6) kk
          rw [← hh, hst] at key
          exact key
        · cases hrv
  | invokespecial i =>
      have hd := hds
      rw [hlen.resolve_left (fun z => by cases z)] at hd
      simp only [stepI] at e1
      split at e1
      · obtain ⟨_, _, _, _, rfl⟩ := oiS_inv e1
        cases ho
      · rename_i hne
        obtain ⟨hv, rfl⟩ := invS_inv e1
        cases ho
        simp only [okL, if_neg hne, Bool.and_eq_true, Bool.or_eq_true, decide_eq_true_eq] at hl0
        obtain ⟨⟨⟨⟨c1, c2⟩, c3⟩, c4⟩, c5⟩ := hl0
        have hrv := hv.2.2
        unfold rcv at hrv
        rw [if_neg (by omega)] at hrv
        have hlen2 : ((st.take b).reverse).length = b := by simp; omega
        rw [← List.head?_reverse] at hrv
        cases hh : (st.take b).reverse with
        | nil => rw [hh] at hlen2; simp at hlen2; omega
        | cons x t =>
          rw [hh] at hrv hlen2 hM
          rw [List.head?_cons] at hrv
          split at hrv
          · rename_i o0 ho0
            cases ho0
            have key := s_invI C hd hll c1 hM hGM hh2 hRd ⟨hv.2.1, hRc.1, hRc.2⟩ rfl (by simp at hlen2; omega) (inW_AWS c3) ⟨c4.1, c4.2.1⟩ (c5.elim Or.inl (fun z => Or.inr (inW_AWS z))) kk
            rw [← hh, hst] at key
            exact key
          · cases hrv
  | _ =>
      exfalso
      subst ho
      have q := step_MO e0
      revert e1
      first
        | (intro e1; simp [stepI] at e1; done)
        | (intro e1; simp only [stepI] at e1; first | (obtain ⟨_, _, q2⟩ := ldI_inv e1; cases q2; done) | (obtain ⟨_, _, q2⟩ := ldL_inv e1; cases q2; done) | (obtain ⟨_, _, q2⟩ := ldA_inv e1; cases q2; done) | (obtain ⟨_, _, _, _, q2⟩ := stI_inv e1; cases q2; done) | (obtain ⟨_, _, _, _, q2⟩ := stL_inv e1; cases q2; done) | (obtain ⟨_, _, _, _, q2⟩ := stA_inv e1; cases q2; done) | (obtain ⟨_, _, q2⟩ := iincS_inv e1; cases q2; done) | (obtain ⟨_, _, _, _, q2⟩ := binI_inv e1; cases q2; done) | (obtain ⟨_, _, _, _, q2⟩ := binL_inv e1; cases q2; done) | (obtain ⟨_, _, _, _, _, q2⟩ := divI_inv e1; cases q2; done) | (obtain ⟨_, _, _, _, _, q2⟩ := divL_inv e1; cases q2; done) | (obtain ⟨_, _, _, q2⟩ := lnegS_inv e1; cases q2; done) | (obtain ⟨_, _, _, _, _, q2⟩ := lcmpS_inv e1; cases q2; done) | (obtain ⟨_, _, _, _, q2⟩ := i2lS_inv e1; cases q2; done) | (obtain ⟨_, _, _, q2⟩ := l2iS_inv e1; cases q2; done) | (obtain ⟨_, _, _, q2⟩ := i2bS_inv e1; cases q2; done) | (obtain ⟨_, _, _, _, q2⟩ := dupS_inv e1; cases q2; done) | (obtain ⟨_, _, _, _, _, q2⟩ := dup2S_inv e1; cases q2; done) | (obtain ⟨_, _, _, _, q2⟩ := popS_inv e1; cases q2; done) | (obtain ⟨_, _, q2⟩ := jmp_inv e1; cases q2; done) | (obtain ⟨_, _, _, _, q2⟩ := ifS_inv e1; split at q2 <;> first | (obtain ⟨_, _, q3⟩ := jmp_inv q2; cases q3; done) | (cases q2; done)) | (obtain ⟨_, _, _, _, _, q2⟩ := icmpS_inv e1; split at q2 <;> first | (obtain ⟨_, _, q3⟩ := jmp_inv q2; cases q3; done) | (cases q2; done)) | (obtain ⟨_, _, _, _, ⟨_, _, _, q2⟩ | ⟨_, _, _, _, _, q2⟩⟩ := tabS_inv e1 <;> cases q2; done) | (obtain ⟨_, _, _, _, _, _, _, q2⟩ := lkpS_inv e1; cases q2; done) | (obtain ⟨_, _, _, _, _, q2⟩ := aldS_inv e1; cases q2; done) | (obtain ⟨_, _, _, _, _, _, q2⟩ := astS_inv e1; cases q2; done) | (obtain ⟨_, _, _, _, _, q2⟩ := aaldS_inv e1; cases q2; done) | (obtain ⟨_, _, _, _, _, _, q2⟩ := aastS_inv e1; cases q2; done) | (obtain ⟨_, _, _, _, q2⟩ := alenS_inv e1; cases q2; done) | (obtain ⟨_, _, _, _, _, _, q2⟩ := getfS_inv e1; cases q2; done) | (obtain ⟨_, _, _, _, _, _, _, _, q2⟩ := putfS_inv e1; cases q2; done) | (obtain ⟨_, _, _, q2⟩ := ret1_inv e1; cases q2; done) | (split at e1 <;> first | (cases e1; done) | (obtain ⟨_, _, q2⟩ := ret2_inv e1; cases q2; done) | (obtain ⟨_, q2⟩ := ret0_inv e1; cases q2; done) | (obtain ⟨_, _, _, _, q2⟩ := newaS_inv e1; cases q2; done) | (split at e1 <;> first | (cases e1; done) | (obtain ⟨_, _, _, _, q2⟩ := newaS_inv e1; cases q2; done))) | (cases e1; done))
end
