/-! 18: one step of the reading, whole -/
section
variable {p : Program} {l : Launch} {e : Env} {R : Room} {s : State} {m : MethodId} {args : Array Value} {below : List Frame} {meth : Method} {c : Code} {D : va_G} {cs : CS} {ba : BA} {n0 z0 : Nat} {Q : State → Prop} {k pc : Nat} {ls : LC} {st : List AV} {G : AG} {h : AH}

theorem s_gets {i : Nat} (C : CT k p s m args meth c D cs ba n0) (hd : decode (P_b k) pc = .ok (.getstatic i, 3)) (hw : Cond.fieldLinkNest (P_o k) i RX2 "RING_CELLS" "[I" RX2 ∈ nst) (kk : GO p l e R s m args below meth c D cs ba n0 z0 Q (pc + 3) ls (.inr (.inr (some 1000)) :: st) G h) : GO p l e R s m args below meth c D cs ba n0 z0 Q pc ls st G h := by
  obtain ⟨hx, hb, hr, hml, hown, hts, hlk, hnm, hN, hK, hs0⟩ := C
  intro arr H locs hL hP hS hF hgg hn hz
  have hg := hgg.1
  exact va_getsN (v := .ref ba.2.1) hx hb hF.1 hS hown (va_Nw.use rfl (hN.1 _ hw)) (fun _ h9 => h9) hd (kk arr H locs hL hP hS hF hgg hn hz)
theorem s_oi {a i : Nat} (C : CT k p s m args meth c D cs ba n0) (hd : decode (P_b k) pc = .ok (.invokespecial i, 3)) (hw : Cond.methodLink (P_o k) i objectInit ∈ AWS) (hll : ls.length = P_l k) (hR0 : 1 ≤ R.frames ∧ 40 ≤ R.locals) (hw8 : (st.map vcat).sum ≤ 8) (kk : GO p l e R s m args below meth c D cs ba n0 z0 Q (pc + 3) ls st G h) : GO p l e R s m args below meth c D cs ba n0 z0 Q pc ls (.inr (.inr (some a)) :: st) G h := by
  obtain ⟨hx, hb, hr, hml, hown, hts, hlk, hnm, hN, hK, hs0⟩ := C
  intro arr H locs hL hP hS hF hgg hn hz
  have hg := hgg.1
  have w2 := ok_oi
  rw [Bool.and_eq_true] at w2
  refine W.objInit hx hb hown (hts _ hw) (hts _ (inW_AWS w2.1)) (hts _ (inW_AWS w2.2)) rfl (by rw [hml, ← hll]; exact hL.1) rfl hd hR0.1 ?_ (kk arr H locs hL hP hS hF hgg hn hz)
  show 2 * 0 + (List.map (fun v => v.category) (List.map (cv ba) st)).sum + 12 ≤ R.locals
  have h8 := cv_sum ba st
  omega
theorem s_cop {a b i : Nat} {n dp sp : Int} (C : CT k p s m args meth c D cs ba n0) (hd : decode (P_b k) pc = .ok (.invokestatic i, 3)) (hw : Cond.methodLink (P_o k) i arraycopyName ∈ AWS) (hll : ls.length = P_l k) (hR0 : 1 ≤ R.frames ∧ 40 ≤ R.locals) (hw8 : (st.map vcat).sum ≤ 8) (hv : a < 1000 ∧ b < 1000 ∧ (shp G a).1 = 0 ∧ (shp G b).1 = 0 ∧ 0 ≤ n ∧ 0 ≤ dp ∧ 0 ≤ sp ∧ sp + n ≤ (shp G b).2 ∧ dp + n ≤ (shp G a).2 ∧ (shp G a).2 ≤ 100000 ∧ (shp G b).2 ≤ 100000) (kk : GO p l e R s m args below meth c D cs ba n0 z0 Q (pc + 3) ls st G (fun a' k' => if a' = a ∧ dp ≤ (k' : Int) ∧ (k' : Int) < dp + n then h b (sp.toNat + (k' - dp.toNat)) else h a' k')) : GO p l e R s m args below meth c D cs ba n0 z0 Q pc ls (.inl n :: .inl dp :: .inr (.inr (some a)) :: .inl sp :: .inr (.inr (some b)) :: st) G h := by
  obtain ⟨hx, hb, hr, hml, hown, hts, hlk, hnm, hN, hK, hs0⟩ := C
  intro arr H locs hL hP hS hF hgg hn hz
  have hg := hgg.1
  obtain ⟨v1, v2, v3, v4, v5, v6, v7, v8, v9, v10, v11⟩ := hv
  have w2 := ok_acp
  rw [Bool.and_eq_true, Bool.and_eq_true] at w2
  have hwa := wsO_get (cs := cs) (ba := ba) (h := h) (shp_lt v3 (by omega))
  have hwb := wsO_get (cs := cs) (ba := ba) (h := h) (shp_lt v4 (by omega))
  rw [celE_0 v3] at hwa
  rw [celE_0 v4] at hwb
  have ng : ∀ z : Int, 0 ≤ z → z ≤ 100000 → ¬ Int32.ofInt z < 0 ∧ (Int32.ofInt z).toNatClampNeg = z.toNat := by
    intro z z1 z2
    refine ⟨?_, Int32.toNatClampNeg_ofInt_of_le (by omega) (by omega)⟩
    rw [show (0 : Int32) = Int32.ofInt 0 from rfl, i32_lt (by omega) (by omega)]
    omega
  obtain ⟨n1, n2⟩ := ng n v5 (by omega)
  obtain ⟨d1, d2⟩ := ng dp v6 (by omega)
  obtain ⟨s1, s2⟩ := ng sp v7 (by omega)
  refine va_copyi (ty := .int) hx hb (by rw [hml, ← hll]; exact hL.1.symm) hown (hts _ hw) (hts _ (inW_AWS w2.1.1)) (hts _ (inW_AWS w2.1.2)) (hts _ (inW_AWS w2.2)) hK hP (wsO_D hg) hS b a 0 0 hwb hwa rfl rfl rfl s1 d1 n1 (by rw [s2, n2]; omega) (by rw [d2, n2]; omega) (fun _ _ => rfl) hR0.1 ?_ hd (fun H1 locs1 hP1 _ hS1 => ?_)
  · have h8 := cv_sum ba st
    have h9 : nativeFrameWords "java/lang/System" "arraycopy" 5 ≤ 20 := by decide +kernel
    omega
  have e0 : ((Sum.inl (cs.1, (shp G a).2, .inl (va_cpy (fun j => Int32.ofInt (h b j)) (fun j => Int32.ofInt (h a j)) (Int32.ofInt sp).toNatClampNeg (Int32.ofInt dp).toNatClampNeg (Int32.ofInt n).toNatClampNeg))) : va_E) = celE cs ba G (fun a' k' => if a' = a ∧ dp ≤ (k' : Int) ∧ (k' : Int) < dp + n then h b (sp.toNat + (k' - dp.toNat)) else h a' k') a := by
    rw [celE_0 v3, s2, d2, n2]
    congr 4
    funext j
    unfold va_cpy
    by_cases ej : dp.toNat ≤ j ∧ j < dp.toNat + n.toNat
    · rw [if_pos ej, if_pos ⟨rfl, by omega, by omega⟩]
    · rw [if_neg ej, if_neg (fun q => ej ⟨by omega, by omega⟩)]
  rw [e0, wsO_set (G := G) (h := h) rfl (fun b2 hb2 => celE_h (by funext j; rw [if_neg (fun q => hb2 q.1)]))] at hP1
  exact kk arr H1 locs1 hL hP1 hS1 (FZ_h (fun b2 hb2 => by funext j; rw [if_neg (fun q => by omega)]) hF) hgg hn hz
theorem fvl_pn {a ci j k0 : Nat} {v : Int} (hj : j ≠ k0) : fvl ba G (put h a k0 v) ci a j = fvl ba G h ci a j := by
  have e1 : put h a k0 v a j = h a j := by unfold put; rw [if_neg (fun q => hj q.2)]
  unfold fvl
  rw [e1]
def GM (G G' : AG) : Prop := gN G ≤ gN G' ∧ gZ G ≤ gZ G' ∧ (okG G → okG G')
theorem GM_r : GM G G := ⟨Nat.le_refl _, Nat.le_refl _, id⟩
theorem GM_t {G1 G2 G3 : AG} (a : GM G1 G2) (b : GM G2 G3) : GM G1 G3 := ⟨Nat.le_trans a.1 b.1, Nat.le_trans a.2.1 b.2.1, fun q => b.2.2 (a.2.2 q)⟩
theorem GM_srf {a j : Nat} {r : Option Nat} : GM G (srf G a j r) := ⟨Nat.le_refl _, Nat.le_refl _, okG_srf⟩
theorem GM_mk {x : Nat × Nat} {r : List (Option Nat)} (hb : gN G < 900) (hr : 2 ≤ x.1 → r.length = x.2) : GM G (mk G x r) := ⟨by rw [gN_mk]; omega, by rw [gZ_mk]; omega, fun q => okG_mk q hb hr⟩
def MO (ls : LC) (G : AG) (o : OU) : Prop := match o with
  | .inl (_, ls', _, G', _) => ls'.length = ls.length ∧ GM G G'
  | .inr (.inl (_, _, (_, ls', _, G', _))) => ls' = ls ∧ G' = G
  | .inr (.inr _) => True
set_option maxHeartbeats 4000000 in
theorem step_MO {o : OU} (e0 : step k pc ls st G h = some o) : MO ls G o := by
  obtain ⟨ins, a, b, c, _, e1⟩ := step_inv e0
  cases ins with
  | iconst n =>
      cases e1
      exact ⟨rfl, GM_r⟩
  | lconst n =>
      cases e1
      exact ⟨rfl, GM_r⟩
  | ldc i =>
      cases e1
      exact ⟨rfl, GM_r⟩
  | ldc2_w i =>
      cases e1
      exact ⟨rfl, GM_r⟩
  | getstatic i =>
      cases e1
      exact ⟨rfl, GM_r⟩
  | bipush n =>
      simp only [stepI] at e1
      split at e1
      · cases e1
        exact ⟨rfl, GM_r⟩
      · cases e1
  | sipush n =>
      simp only [stepI] at e1
      split at e1
      · cases e1
        exact ⟨rfl, GM_r⟩
      · cases e1
  | iload_n i =>
      obtain ⟨x, _, rfl⟩ := ldI_inv e1
      exact ⟨rfl, GM_r⟩
  | iload i =>
      obtain ⟨x, _, rfl⟩ := ldI_inv e1
      exact ⟨rfl, GM_r⟩
  | lload_n i =>
      obtain ⟨x, _, rfl⟩ := ldL_inv e1
      exact ⟨rfl, GM_r⟩
  | lload i =>
      obtain ⟨x, _, rfl⟩ := ldL_inv e1
      exact ⟨rfl, GM_r⟩
  | aload_n i =>
      obtain ⟨x, _, rfl⟩ := ldA_inv e1
      exact ⟨rfl, GM_r⟩
  | aload i =>
      obtain ⟨x, _, rfl⟩ := ldA_inv e1
      exact ⟨rfl, GM_r⟩
  | istore_n i =>
      obtain ⟨x, st0, _, _, rfl⟩ := stI_inv e1
      exact ⟨len_st1, GM_r⟩
  | istore i =>
      obtain ⟨x, st0, _, _, rfl⟩ := stI_inv e1
      exact ⟨len_st1, GM_r⟩
  | lstore_n i =>
      obtain ⟨x, st0, _, _, rfl⟩ := stL_inv e1
      exact ⟨len_st2, GM_r⟩
  | lstore i =>
      obtain ⟨x, st0, _, _, rfl⟩ := stL_inv e1
      exact ⟨len_st2, GM_r⟩
  | astore_n i =>
      obtain ⟨x, st0, _, _, rfl⟩ := stA_inv e1
      exact ⟨len_st1, GM_r⟩
  | astore i =>
      obtain ⟨x, st0, _, _, rfl⟩ := stA_inv e1
      exact ⟨len_st1, GM_r⟩
  | iinc i n =>
      obtain ⟨x, _, rfl⟩ := iincS_inv e1
      exact ⟨len_st1, GM_r⟩
  | iadd =>
      obtain ⟨x, y, st0, _, rfl⟩ := binI_inv e1
      exact ⟨rfl, GM_r⟩
  | isub =>
      obtain ⟨x, y, st0, _, rfl⟩ := binI_inv e1
      exact ⟨rfl, GM_r⟩
  | imul =>
      obtain ⟨x, y, st0, _, rfl⟩ := binI_inv e1
      exact ⟨rfl, GM_r⟩
  | iand =>
      obtain ⟨x, y, st0, _, rfl⟩ := binI_inv e1
      exact ⟨rfl, GM_r⟩
  | ior =>
      obtain ⟨x, y, st0, _, rfl⟩ := binI_inv e1
      exact ⟨rfl, GM_r⟩
  | ixor =>
      obtain ⟨x, y, st0, _, rfl⟩ := binI_inv e1
      exact ⟨rfl, GM_r⟩
  | ishl =>
      obtain ⟨x, y, st0, _, rfl⟩ := binI_inv e1
      exact ⟨rfl, GM_r⟩
  | ishr =>
      obtain ⟨x, y, st0, _, rfl⟩ := binI_inv e1
      exact ⟨rfl, GM_r⟩
  | ladd =>
      obtain ⟨x, y, st0, _, rfl⟩ := binL_inv e1
      exact ⟨rfl, GM_r⟩
  | lsub =>
      obtain ⟨x, y, st0, _, rfl⟩ := binL_inv e1
      exact ⟨rfl, GM_r⟩
  | lmul =>
      obtain ⟨x, y, st0, _, rfl⟩ := binL_inv e1
      exact ⟨rfl, GM_r⟩
  | idiv =>
      obtain ⟨x, y, st0, _, _, rfl⟩ := divI_inv e1
      exact ⟨rfl, GM_r⟩
  | irem =>
      obtain ⟨x, y, st0, _, _, rfl⟩ := divI_inv e1
      exact ⟨rfl, GM_r⟩
  | ldiv =>
      obtain ⟨x, y, st0, _, _, rfl⟩ := divL_inv e1
      exact ⟨rfl, GM_r⟩
  | lrem =>
      obtain ⟨x, y, st0, _, _, rfl⟩ := divL_inv e1
      exact ⟨rfl, GM_r⟩
  | lneg =>
      obtain ⟨x, st0, _, rfl⟩ := lnegS_inv e1
      exact ⟨rfl, GM_r⟩
  | lcmp =>
      obtain ⟨x, y, st0, _, _, rfl⟩ := lcmpS_inv e1
      exact ⟨rfl, GM_r⟩
  | i2l =>
      obtain ⟨x, st0, _, _, rfl⟩ := i2lS_inv e1
      exact ⟨rfl, GM_r⟩
  | l2i =>
      obtain ⟨x, st0, _, rfl⟩ := l2iS_inv e1
      exact ⟨rfl, GM_r⟩
  | i2b =>
      obtain ⟨x, st0, _, rfl⟩ := i2bS_inv e1
      exact ⟨rfl, GM_r⟩
  | dup =>
      obtain ⟨x, st0, _, _, rfl⟩ := dupS_inv e1
      exact ⟨rfl, GM_r⟩
  | dup2 =>
      obtain ⟨x, y, st0, _, _, rfl⟩ := dup2S_inv e1
      exact ⟨rfl, GM_r⟩
  | pop =>
      obtain ⟨x, st0, _, _, rfl⟩ := popS_inv e1
      exact ⟨rfl, GM_r⟩
  | ifCond cd off =>
      obtain ⟨x, st0, _, _, e2⟩ := ifS_inv e1
      split at e2
      · obtain ⟨t, _, rfl⟩ := jmp_inv e2
        exact ⟨rfl, GM_r⟩
      · cases e2
        exact ⟨rfl, GM_r⟩
  | if_icmp cd off =>
      obtain ⟨x, y, st0, _, _, e2⟩ := icmpS_inv e1
      split at e2
      · obtain ⟨t, _, rfl⟩ := jmp_inv e2
        exact ⟨rfl, GM_r⟩
      · cases e2
        exact ⟨rfl, GM_r⟩
  | goto off =>
      obtain ⟨t, _, rfl⟩ := jmp_inv e1
      exact ⟨rfl, GM_r⟩
  | tableswitch df lo hi offs =>
      obtain ⟨x, st0, _, _, ⟨t, _, _, rfl⟩ | ⟨off, t, _, _, _, rfl⟩⟩ := tabS_inv e1 <;> exact ⟨rfl, GM_r⟩
  | lookupswitch df ps =>
      obtain ⟨x, st0, t, _, _, _, _, rfl⟩ := lkpS_inv e1
      exact ⟨rfl, GM_r⟩
  | iaload =>
      obtain ⟨i, a, st0, _, _, rfl⟩ := aldS_inv e1
      exact ⟨rfl, GM_r⟩
  | baload =>
      obtain ⟨i, a, st0, _, _, rfl⟩ := aldS_inv e1
      exact ⟨rfl, GM_r⟩
  | aaload =>
      obtain ⟨i, a, st0, _, _, rfl⟩ := aaldS_inv e1
      exact ⟨rfl, GM_r⟩
  | iastore =>
      obtain ⟨x, i, a, st0, _, _, rfl⟩ := astS_inv e1
      exact ⟨rfl, GM_r⟩
  | bastore =>
      obtain ⟨x, i, a, st0, _, _, rfl⟩ := astS_inv e1
      exact ⟨rfl, GM_r⟩
  | aastore =>
      obtain ⟨b, i, a, st0, _, _, rfl⟩ := aastS_inv e1
      exact ⟨rfl, GM_srf⟩
  | arraylength =>
      obtain ⟨a, st0, _, _, rfl⟩ := alenS_inv e1
      exact ⟨rfl, GM_r⟩
  | newarray t =>
      simp only [stepI] at e1
      split at e1
      · obtain ⟨n, st0, _, hb, rfl⟩ := newaS_inv e1
        exact ⟨rfl, GM_mk hb.2.2 (fun z => by simp at z)⟩
      · split at e1
        · obtain ⟨n, st0, _, hb, rfl⟩ := newaS_inv e1
          exact ⟨rfl, GM_mk hb.2.2 (fun z => by simp at z)⟩
        · cases e1
  | anewarray i =>
      simp only [stepI] at e1
      split at e1
      · obtain ⟨n, st0, _, hb, rfl⟩ := newaS_inv e1
        exact ⟨rfl, GM_mk hb.2.2 (fun _ => by simp)⟩
      · cases e1
  | new i =>
      simp only [stepI] at e1
      split at e1
      · rename_i hb
        cases e1
        exact ⟨rfl, GM_mk hb.1 (fun _ => by simp)⟩
      · cases e1
  | getfield i =>
      obtain ⟨a, v, st0, _, _, _, rfl⟩ := getfS_inv e1
      exact ⟨rfl, GM_r⟩
  | putfield i =>
      obtain ⟨a, v, st0, G2, h2, _, _, hp, rfl⟩ := putfS_inv e1
      rcases hp with ⟨_, _, rfl⟩ | ⟨_, _, rfl⟩ | ⟨_, ⟨r, _, rfl⟩, _⟩ | ⟨_, _, rfl⟩
      · exact ⟨rfl, GM_r⟩
      · exact ⟨rfl, GM_r⟩
      · exact ⟨rfl, GM_srf⟩
      · exact ⟨rfl, GM_r⟩
  | invokestatic i =>
      simp only [stepI] at e1
      split at e1
      · obtain ⟨n, dp, sp, a, b, st0, _, _, rfl⟩ := copS_inv e1
        exact ⟨rfl, GM_r⟩
      · obtain ⟨_, rfl⟩ := invS_inv e1
        exact ⟨rfl, rfl⟩
  | invokevirtual i =>
      obtain ⟨_, rfl⟩ := invS_inv e1
      exact ⟨rfl, rfl⟩
  | invokespecial i =>
      simp only [stepI] at e1
      split at e1
      · obtain ⟨a, st0, _, _, rfl⟩ := oiS_inv e1
        exact ⟨rfl, GM_r⟩
      · obtain ⟨_, rfl⟩ := invS_inv e1
        exact ⟨rfl, rfl⟩
  | ireturn =>
      obtain ⟨x, _, _, rfl⟩ := ret1_inv e1
      trivial
  | lreturn =>
      simp only [stepI] at e1
      split at e1
      · obtain ⟨x, _, rfl⟩ := ret2_inv e1
        trivial
      · cases e1
  | return_ =>
      simp only [stepI] at e1
      split at e1
      · obtain ⟨_, rfl⟩ := ret0_inv e1
        trivial
      · cases e1
  | _ => simp [stepI] at e1
theorem okE_dec {ins : Instr} {a b : Nat} {cc : Int} (hk : okE k (pc, ins, a, b, cc) = true) : (∃ len, decode (P_b k) pc = .ok (ins, len) ∧ (isSw ins = true ∨ len = iln ins)) ∧ okL k ins a b cc = true := by
  unfold okE at hk
  rw [Bool.and_eq_true] at hk
  refine ⟨?_, hk.2⟩
  have h1 := hk.1
  dsimp only at h1
  split at h1
  · rename_i i len hd
    rw [Bool.and_eq_true, decide_eq_true_eq, Bool.or_eq_true, decide_eq_true_eq] at h1
    obtain ⟨rfl, h2⟩ := h1
    exact ⟨len, hd, h2⟩
  · cases h1
def KO (p : Program) (l : Launch) (e : Env) (R : Room) (s : State) (m : MethodId) (args : Array Value) (below : List Frame) (meth : Method) (c : Code) (D : va_G) (cs : CS) (ba : BA) (n0 z0 : Nat) (Q : State → Prop) (o : OU) : Prop := match o with
  | .inl (pc', ls', st', G', h') => GO p l e R s m args below meth c D cs ba n0 z0 Q pc' ls' st' G' h' ∧ gN G' - n0 ≤ R.cells ∧ gZ G' - z0 ≤ R.slots
  | _ => False
/-- where a jump would go, also where it isn't taken -/
def hasJ (pc : Nat) (ins : Instr) : Prop := match ins with
  | .ifCond _ off => ∃ tgt : Nat, (pc : Int) + off = (tgt : Nat)
  | .if_icmp _ off => ∃ tgt : Nat, (pc : Int) + off = (tgt : Nat)
  | _ => True
set_option maxHeartbeats 4000000 in
theorem snd_step {o : OU} (C : CT k p s m args meth c D cs ba n0) (hk : k < 212) (hall : ∀ k, k < 212 → (P_c k).all (okE k) = true) (hjp : ∀ k, k < 212 → ∀ q ∈ P_c k, hasJ q.1 q.2.1) (hll : ls.length = P_l k) (hR0 : 1 ≤ R.frames ∧ 40 ≤ R.locals) (hlo2 : okG G) (e0 : step k pc ls st G h = some o) (hko : KO p l e R s m args below meth c D cs ba n0 z0 Q o) : GO p l e R s m args below meth c D cs ba n0 z0 Q pc ls st G h := by
  obtain ⟨ins, a, b, cc, hmem, e1⟩ := step_inv e0
  have hlo := hlo2.1
  obtain ⟨⟨len, hds, hlen⟩, hl0⟩ := okE_dec (List.all_eq_true.mp (hall k hk) _ hmem)
  have hoff := hjp k hk _ hmem
  cases ins with
  | iconst n =>
      have hd := hds
      rw [hlen.resolve_left (fun z => by cases z)] at hd
      cases e1
      exact s_iconst C hd hko.1
  | bipush n =>
      have hd := hds
      rw [hlen.resolve_left (fun z => by cases z)] at hd
      simp only [stepI] at e1
      split at e1
      · rename_i hc
        cases e1
        exact s_bipush C hd hc hko.1
      · cases e1
  | sipush n =>
      have hd := hds
      rw [hlen.resolve_left (fun z => by cases z)] at hd
      simp only [stepI] at e1
      split at e1
      · rename_i hc
        cases e1
        exact s_sipush C hd hc hko.1
      · cases e1
  | lconst n =>
      have hd := hds
      rw [hlen.resolve_left (fun z => by cases z)] at hd
      cases e1
      exact s_lconst C hd hko.1
  | ldc i =>
      have hd := hds
      rw [hlen.resolve_left (fun z => by cases z)] at hd
      cases e1
      exact s_ldc C hd (inW_AWS hl0) hko.1
  | ldc2_w i =>
      have hd := hds
      rw [hlen.resolve_left (fun z => by cases z)] at hd
      cases e1
      exact s_ldc2 C hd (inW_AWS hl0) hko.1
  | iload_n i =>
      have hd := hds
      rw [hlen.resolve_left (fun z => by cases z)] at hd
      obtain ⟨x, hx0, rfl⟩ := ldI_inv e1
      exact s_iload_n C hd hx0 hko.1
  | iload i =>
      have hd := hds
      rw [hlen.resolve_left (fun z => by cases z)] at hd
      obtain ⟨x, hx0, rfl⟩ := ldI_inv e1
      exact s_iload C hd hx0 hko.1
  | lload_n i =>
      have hd := hds
      rw [hlen.resolve_left (fun z => by cases z)] at hd
      obtain ⟨x, hx0, rfl⟩ := ldL_inv e1
      exact s_lload_n C hd hx0 hko.1
  | lload i =>
      have hd := hds
      rw [hlen.resolve_left (fun z => by cases z)] at hd
      obtain ⟨x, hx0, rfl⟩ := ldL_inv e1
      exact s_lload C hd hx0 hko.1
  | aload_n i =>
      have hd := hds
      rw [hlen.resolve_left (fun z => by cases z)] at hd
      obtain ⟨x, hx0, rfl⟩ := ldA_inv e1
      exact s_aload_n C hd hx0 hko.1
  | aload i =>
      have hd := hds
      rw [hlen.resolve_left (fun z => by cases z)] at hd
      obtain ⟨x, hx0, rfl⟩ := ldA_inv e1
      exact s_aload C hd hx0 hko.1
  | istore_n i =>
      have hd := hds
      rw [hlen.resolve_left (fun z => by cases z)] at hd
      obtain ⟨x, st0, rfl, hi, rfl⟩ := stI_inv e1
      exact s_istore_n C hd hi hko.1
  | istore i =>
      have hd := hds
      rw [hlen.resolve_left (fun z => by cases z)] at hd
      obtain ⟨x, st0, rfl, hi, rfl⟩ := stI_inv e1
      exact s_istore C hd hi hko.1
  | lstore_n i =>
      have hd := hds
      rw [hlen.resolve_left (fun z => by cases z)] at hd
      obtain ⟨x, st0, rfl, hi, rfl⟩ := stL_inv e1
      exact s_lstore_n C hd hi hko.1
  | lstore i =>
      have hd := hds
      rw [hlen.resolve_left (fun z => by cases z)] at hd
      obtain ⟨x, st0, rfl, hi, rfl⟩ := stL_inv e1
      exact s_lstore C hd hi hko.1
  | astore_n i =>
      have hd := hds
      rw [hlen.resolve_left (fun z => by cases z)] at hd
      obtain ⟨x, st0, rfl, hi, rfl⟩ := stA_inv e1
      exact s_astore_n C hd hi hko.1
  | astore i =>
      have hd := hds
      rw [hlen.resolve_left (fun z => by cases z)] at hd
      obtain ⟨x, st0, rfl, hi, rfl⟩ := stA_inv e1
      exact s_astore C hd hi hko.1
  | iinc i n =>
      have hd := hds
      rw [hlen.resolve_left (fun z => by cases z)] at hd
      obtain ⟨x, hx0, rfl⟩ := iincS_inv e1
      exact s_iinc C hd hx0 hko.1
  | iadd =>
      have hd := hds
      rw [hlen.resolve_left (fun z => by cases z)] at hd
      obtain ⟨x, y, st0, rfl, rfl⟩ := binI_inv e1
      exact s_iadd C hd hko.1
  | isub =>
      have hd := hds
      rw [hlen.resolve_left (fun z => by cases z)] at hd
      obtain ⟨x, y, st0, rfl, rfl⟩ := binI_inv e1
      exact s_isub C hd hko.1
  | imul =>
      have hd := hds
      rw [hlen.resolve_left (fun z => by cases z)] at hd
      obtain ⟨x, y, st0, rfl, rfl⟩ := binI_inv e1
      exact s_imul C hd hko.1
  | iand =>
      have hd := hds
      rw [hlen.resolve_left (fun z => by cases z)] at hd
      obtain ⟨x, y, st0, rfl, rfl⟩ := binI_inv e1
      exact s_iand C hd hko.1
  | ior =>
      have hd := hds
      rw [hlen.resolve_left (fun z => by cases z)] at hd
      obtain ⟨x, y, st0, rfl, rfl⟩ := binI_inv e1
      exact s_ior C hd hko.1
  | ixor =>
      have hd := hds
      rw [hlen.resolve_left (fun z => by cases z)] at hd
      obtain ⟨x, y, st0, rfl, rfl⟩ := binI_inv e1
      exact s_ixor C hd hko.1
  | ishl =>
      have hd := hds
      rw [hlen.resolve_left (fun z => by cases z)] at hd
      obtain ⟨x, y, st0, rfl, rfl⟩ := binI_inv e1
      exact s_ishl C hd hko.1
  | ishr =>
      have hd := hds
      rw [hlen.resolve_left (fun z => by cases z)] at hd
      obtain ⟨x, y, st0, rfl, rfl⟩ := binI_inv e1
      exact s_ishr C hd hko.1
  | ladd =>
      have hd := hds
      rw [hlen.resolve_left (fun z => by cases z)] at hd
      obtain ⟨x, y, st0, rfl, rfl⟩ := binL_inv e1
      exact s_ladd C hd hko.1
  | lsub =>
      have hd := hds
      rw [hlen.resolve_left (fun z => by cases z)] at hd
      obtain ⟨x, y, st0, rfl, rfl⟩ := binL_inv e1
      exact s_lsub C hd hko.1
  | lmul =>
      have hd := hds
      rw [hlen.resolve_left (fun z => by cases z)] at hd
      obtain ⟨x, y, st0, rfl, rfl⟩ := binL_inv e1
      exact s_lmul C hd hko.1
  | idiv =>
      have hd := hds
      rw [hlen.resolve_left (fun z => by cases z)] at hd
      obtain ⟨x, y, st0, rfl, hv, rfl⟩ := divI_inv e1
      exact s_idiv C hd hv hko.1
  | irem =>
      have hd := hds
      rw [hlen.resolve_left (fun z => by cases z)] at hd
      obtain ⟨x, y, st0, rfl, hv, rfl⟩ := divI_inv e1
      exact s_irem C hd hv hko.1
  | ldiv =>
      have hd := hds
      rw [hlen.resolve_left (fun z => by cases z)] at hd
      obtain ⟨x, y, st0, rfl, hv, rfl⟩ := divL_inv e1
      exact s_ldiv C hd hv hko.1
  | lrem =>
      have hd := hds
      rw [hlen.resolve_left (fun z => by cases z)] at hd
      obtain ⟨x, y, st0, rfl, hv, rfl⟩ := divL_inv e1
      exact s_lrem C hd hv hko.1
  | lneg =>
      have hd := hds
      rw [hlen.resolve_left (fun z => by cases z)] at hd
      obtain ⟨x, st0, rfl, rfl⟩ := lnegS_inv e1
      exact s_lneg C hd hko.1
  | lcmp =>
      have hd := hds
      rw [hlen.resolve_left (fun z => by cases z)] at hd
      obtain ⟨x, y, st0, rfl, hv, rfl⟩ := lcmpS_inv e1
      exact s_lcmp C hd hv hko.1
  | i2l =>
      have hd := hds
      rw [hlen.resolve_left (fun z => by cases z)] at hd
      obtain ⟨x, st0, rfl, hv, rfl⟩ := i2lS_inv e1
      exact s_i2l C hd hv hko.1
  | l2i =>
      have hd := hds
      rw [hlen.resolve_left (fun z => by cases z)] at hd
      obtain ⟨x, st0, rfl, rfl⟩ := l2iS_inv e1
      exact s_l2i C hd hko.1
  | i2b =>
      have hd := hds
      rw [hlen.resolve_left (fun z => by cases z)] at hd
      obtain ⟨x, st0, rfl, rfl⟩ := i2bS_inv e1
      exact s_i2b C hd hko.1
  | dup =>
      have hd := hds
      rw [hlen.resolve_left (fun z => by cases z)] at hd
      obtain ⟨x, st0, rfl, hv, rfl⟩ := dupS_inv e1
      exact s_dup C hd hv hko.1
  | dup2 =>
      have hd := hds
      rw [hlen.resolve_left (fun z => by cases z)] at hd
      obtain ⟨x, y, st0, rfl, hv, rfl⟩ := dup2S_inv e1
      exact s_dup2 C hd hv hko.1
  | pop =>
      have hd := hds
      rw [hlen.resolve_left (fun z => by cases z)] at hd
      obtain ⟨x, st0, rfl, hv, rfl⟩ := popS_inv e1
      exact s_pop C hd hv hko.1
  | ifCond cd off =>
      have hd := hds
      rw [hlen.resolve_left (fun z => by cases z)] at hd
      obtain ⟨x, st0, rfl, hv, e2⟩ := ifS_inv e1
      have hjmp : ∀ f : Int, f = off → ∃ tgt : Nat, (pc : Int) + f = (tgt : Nat) := fun f hf => by subst hf; exact hoff
      by_cases ht : tst cd x 0 = true
      · rw [if_pos ht] at e2
        obtain ⟨t, u1, rfl⟩ := jmp_inv e2
        exact s_if C hd u1 hv (fun _ => hko.1) (fun z => absurd ht z)
      · rw [if_neg ht] at e2
        cases e2
        have u1 : ∃ tgt : Nat, (pc : Int) + off = (tgt : Nat) := hjmp off rfl
        obtain ⟨t, u1⟩ := u1
        exact s_if C hd u1 hv (fun z => absurd z ht) (fun _ => hko.1)
  | if_icmp cd off =>
      have hd := hds
      rw [hlen.resolve_left (fun z => by cases z)] at hd
      obtain ⟨x, y, st0, rfl, hv, e2⟩ := icmpS_inv e1
      have hjmp : ∀ f : Int, f = off → ∃ tgt : Nat, (pc : Int) + f = (tgt : Nat) := fun f hf => by subst hf; exact hoff
      by_cases ht : tst cd x y = true
      · rw [if_pos ht] at e2
        obtain ⟨t, u1, rfl⟩ := jmp_inv e2
        exact s_icmp C hd u1 hv (fun _ => hko.1) (fun z => absurd ht z)
      · rw [if_neg ht] at e2
        cases e2
        have u1 : ∃ tgt : Nat, (pc : Int) + off = (tgt : Nat) := hjmp off rfl
        obtain ⟨t, u1⟩ := u1
        exact s_icmp C hd u1 hv (fun z => absurd z ht) (fun _ => hko.1)
  | goto off =>
      have hd := hds
      rw [hlen.resolve_left (fun z => by cases z)] at hd
      obtain ⟨t, u1, rfl⟩ := jmp_inv e1
      exact s_goto C hd u1 hko.1
  | tableswitch df lo hi offs =>
      obtain ⟨x, st0, rfl, hv, ⟨t, h1, h2, rfl⟩ | ⟨off, t, h1, h2, h3, rfl⟩⟩ := tabS_inv e1
      · exact s_tabO C hds hv h1 h2 hko.1
      · exact s_tabI C hds hv h1 h2 h3 hko.1
  | lookupswitch df ps =>
      obtain ⟨x, st0, t, rfl, hv, hp, u1, rfl⟩ := lkpS_inv e1
      exact s_lkp C hds hv hp u1 hko.1
  | iaload =>
      have hd := hds
      rw [hlen.resolve_left (fun z => by cases z)] at hd
      obtain ⟨i, a, st0, rfl, hv, rfl⟩ := aldS_inv e1
      exact s_iald C hd hv hko.1
  | baload =>
      have hd := hds
      rw [hlen.resolve_left (fun z => by cases z)] at hd
      obtain ⟨i, a, st0, rfl, hv, rfl⟩ := aldS_inv e1
      exact s_bald C hd hv hko.1
  | aaload =>
      have hd := hds
      rw [hlen.resolve_left (fun z => by cases z)] at hd
      obtain ⟨i, a, st0, rfl, hv, rfl⟩ := aaldS_inv e1
      exact s_aald C hd hv hko.1
  | iastore =>
      have hd := hds
      rw [hlen.resolve_left (fun z => by cases z)] at hd
      obtain ⟨x, i, a, st0, rfl, hv, rfl⟩ := astS_inv e1
      exact s_iast C hd hv.1 hko.1
  | bastore =>
      have hd := hds
      rw [hlen.resolve_left (fun z => by cases z)] at hd
      obtain ⟨x, i, a, st0, rfl, hv, rfl⟩ := astS_inv e1
      exact s_bast C hd hv.1 (hv.2.resolve_left (by decide)) hko.1
  | aastore =>
      have hd := hds
      rw [hlen.resolve_left (fun z => by cases z)] at hd
      obtain ⟨b, i, a, st0, rfl, hv, rfl⟩ := aastS_inv e1
      exact s_aast C hd hv hko.1
  | arraylength =>
      have hd := hds
      rw [hlen.resolve_left (fun z => by cases z)] at hd
      obtain ⟨a, st0, rfl, hv, rfl⟩ := alenS_inv e1
      exact s_alen C hd hv hko.1
  | newarray t =>
      have hd := hds
      rw [hlen.resolve_left (fun z => by cases z)] at hd
      simp only [stepI] at e1
      have w2 := ok_arr
      rw [Bool.and_eq_true] at w2
      split at e1
      · rename_i ht
        subst ht
        obtain ⟨n, st0, rfl, hb9, rfl⟩ := newaS_inv e1
        obtain ⟨k1, k2, k3⟩ := hko
        rw [gN_mk] at k2
        rw [gZ_mk] at k3
        exact s_newi C hd ⟨hb9.1, hb9.2.1⟩ hb9.2.2 (inW_AWS w2.1) k2 k3 k1
      · split at e1
        · rename_i ht
          subst ht
          obtain ⟨n, st0, rfl, hb9, rfl⟩ := newaS_inv e1
          obtain ⟨k1, k2, k3⟩ := hko
          rw [gN_mk] at k2
          rw [gZ_mk] at k3
          exact s_newz C hd ⟨hb9.1, hb9.2.1⟩ hb9.2.2 (inW_AWS w2.2) k2 k3 k1
        · cases e1
  | anewarray i =>
      have hd := hds
      rw [hlen.resolve_left (fun z => by cases z)] at hd
      simp only [stepI] at e1
      simp only [okL, Bool.and_eq_true, decide_eq_true_eq] at hl0
      split at e1
      · rename_i ht
        obtain ⟨n, st0, rfl, hb9, rfl⟩ := newaS_inv e1
        obtain ⟨k1, k2, k3⟩ := hko
        rw [gN_mk] at k2
        rw [gZ_mk] at k3
        rcases ht with rfl | rfl
        · exact s_newR C hd ⟨hb9.1, hb9.2.1⟩ hb9.2.2 (inW_AWS hl0.2) k2 k3 k1
        · exact s_newT C hd ⟨hb9.1, hb9.2.1⟩ hb9.2.2 (inW_AWS hl0.2) k2 k3 k1
      · cases e1
  | new i =>
      have hd := hds
      rw [hlen.resolve_left (fun z => by cases z)] at hd
      simp only [stepI] at e1
      simp only [okL, Bool.and_eq_true, decide_eq_true_eq] at hl0
      split at e1
      · rename_i hb9
        cases e1
        obtain ⟨k1, k2, k3⟩ := hko
        rw [gN_mk] at k2
        rw [gZ_mk] at k3
        exact s_new C hd hb9.2 hb9.1 (inW_AWS hl0.1.1.2) (inW_AWS hl0.1.2) (inW_AWS hl0.2) k2 k3 k1
      · cases e1
  | getfield i =>
      have hd := hds
      rw [hlen.resolve_left (fun z => by cases z)] at hd
      obtain ⟨o0, v, st0, rfl, hs, hv, rfl⟩ := getfS_inv e1
      simp only [okL, Bool.and_eq_true, decide_eq_true_eq] at hl0
      exact s_getf C hd hl0.1.2 hs.2 (by rw [hs.1]) (inW_AWS hl0.2) (hv ba) hko.1
  | putfield i =>
      have hd := hds
      rw [hlen.resolve_left (fun z => by cases z)] at hd
      obtain ⟨o0, v, st0, G2, h2, rfl, hs, hp, rfl⟩ := putfS_inv e1
      simp only [okL, Bool.and_eq_true, decide_eq_true_eq] at hl0
      obtain ⟨f0, f1, f3, f2, f4⟩ := fty_ok a hl0.1.1.2 b hs.2
      have ho : (shp G o0).1 = 4 + a := by rw [hs.1]
      have hlt := shp_lt ho (by omega)
      rcases hp with ⟨u0, ⟨x, rfl, rfl⟩, rfl⟩ | ⟨u0, ⟨x, rfl, rfl⟩, rfl⟩ | ⟨u0, ⟨r, rfl, rfl⟩, rfl⟩ | ⟨u0, ⟨x, hx01, rfl, rfl⟩, rfl⟩
      · exact s_putf C hd hl0.1.1.2 hs.2 ho ho (inW_AWS hl0.1.2) hl0.2 rfl rfl id (by rw [f0 u0]; exact vp_nar_int _) (by rw [f0 u0]; rfl) (by rw [fvl_0 (Or.inl u0)]; unfold put; rw [if_pos ⟨rfl, rfl⟩]; rfl) (fun j hj => fvl_pn hj) (fun b2 hb2 => celE_h (put_ne hb2)) (fun a2 ha2 => put_ne (by have := hlo; omega)) hko.1
      · exact s_putf C hd hl0.1.1.2 hs.2 ho ho (inW_AWS hl0.1.2) hl0.2 rfl rfl id (by rw [f1 u0]; rfl) (by rw [f1 u0]; rfl) (by rw [fvl_1 u0]; unfold put; rw [if_pos ⟨rfl, rfl⟩]; rfl) (fun j hj => fvl_pn hj) (fun b2 hb2 => celE_h (put_ne hb2)) (fun a2 ha2 => put_ne (by have := hlo; omega)) hko.1
      · have hgl := hlo2
        exact s_putf (G' := srf G o0 b (some r)) C hd hl0.1.1.2 hs.2 ho ho (inW_AWS hl0.1.2) hl0.2 rfl rfl okG_srf (rt_ok (f2 u0) _).1 (rt_ok (f2 u0) _).2 (by rw [fvl_2 u0, rfs_set (by rw [hgl.2.1]; exact hlt) (by rw [hgl.2.2 o0 hlt (by omega), hs.1]; exact hs.2), if_pos rfl]; rfl) (fun j hj => by unfold fvl; rw [rfs_set (by rw [hgl.2.1]; exact hlt) (by rw [hgl.2.2 o0 hlt (by omega), hs.1]; exact hs.2), if_neg hj]) (fun b2 hb2 => celE_r hb2) (fun _ _ => rfl) hko.1
      · exact s_putf C hd hl0.1.1.2 hs.2 ho ho (inW_AWS hl0.1.2) hl0.2 rfl rfl id (by rw [f3 u0]; rw [cv_i]; rcases hx01 with rfl | rfl <;> decide) (by rw [f3 u0]; rw [cv_i]; rcases hx01 with rfl | rfl <;> decide) (by rw [fvl_0 (Or.inr u0)]; unfold put; rw [if_pos ⟨rfl, rfl⟩]; rfl) (fun j hj => fvl_pn hj) (fun b2 hb2 => celE_h (put_ne hb2)) (fun a2 ha2 => put_ne (by have := hlo; omega)) hko.1
  | getstatic i =>
      have hd := hds
      rw [hlen.resolve_left (fun z => by cases z)] at hd
      cases e1
      simp only [okL, decide_eq_true_eq] at hl0
      exact s_gets C hd hl0 hko.1
  | invokestatic i =>
      have hd := hds
      rw [hlen.resolve_left (fun z => by cases z)] at hd
      simp only [stepI] at e1
      split at e1
      · rename_i ha
        obtain ⟨n, dp, sp, a2, b2, st0, rfl, hv, rfl⟩ := copS_inv e1
        simp only [okL, if_pos ha] at hl0
        exact s_cop C hd (inW_AWS hl0) hll hR0 hv.2 hv.1 hko.1
      · obtain ⟨_, rfl⟩ := invS_inv e1
        exact absurd hko id
  | invokevirtual i =>
      have hd := hds
      rw [hlen.resolve_left (fun z => by cases z)] at hd
      obtain ⟨_, rfl⟩ := invS_inv e1
      exact absurd hko id
  | invokespecial i =>
      have hd := hds
      rw [hlen.resolve_left (fun z => by cases z)] at hd
      simp only [stepI] at e1
      split at e1
      · rename_i ha
        obtain ⟨a2, st0, rfl, hv, rfl⟩ := oiS_inv e1
        simp only [okL, if_pos ha] at hl0
        exact s_oi C hd (inW_AWS hl0) hll hR0 hv hko.1
      · obtain ⟨_, rfl⟩ := invS_inv e1
        exact absurd hko id
  | ireturn =>
      have hd := hds
      rw [hlen.resolve_left (fun z => by cases z)] at hd
      obtain ⟨x, _, _, rfl⟩ := ret1_inv e1
      exact absurd hko id
  | lreturn =>
      have hd := hds
      rw [hlen.resolve_left (fun z => by cases z)] at hd
      simp only [stepI] at e1
      split at e1
      · obtain ⟨x, _, rfl⟩ := ret2_inv e1
        exact absurd hko id
      · cases e1
  | return_ =>
      have hd := hds
      rw [hlen.resolve_left (fun z => by cases z)] at hd
      simp only [stepI] at e1
      split at e1
      · obtain ⟨_, rfl⟩ := ret0_inv e1
        exact absurd hko id
      · cases e1
  | _ => simp [stepI] at e1
end
