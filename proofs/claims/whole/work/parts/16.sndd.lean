/-! 16: rows: new cells -/
section
variable {p : Program} {l : Launch} {e : Env} {R : Room} {s : State} {m : MethodId} {args : Array Value} {below : List Frame} {meth : Method} {c : Code} {D : va_G} {cs : CS} {ba : BA} {n0 z0 : Nat} {Q : State → Prop} {k pc : Nat} {ls : LC} {st : List AV} {G : AG} {h : AH}

theorem W_bd {H : Heap} {locs : List Loc} {cells slots : Nat} {g : JFrame} (kk : H.size ≤ s.heap.size + cells → W p l e R s m args below meth c H locs cells slots Q g) : W p l e R s m args below meth c H locs cells slots Q g := by
  intro T hT X
  have h1 : T.heap.size ≤ s.heap.size + cells := X.same.2.2.1
  rw [hT] at h1
  exact kk h1 T hT X
theorem gN_mk {x : Nat × Nat} {r : List (Option Nat)} : gN (mk G x r) = gN G + 1 := by simp [gN, mk]
theorem gZ_mk {x : Nat × Nat} {r : List (Option Nat)} : gZ (mk G x r) = gZ G + x.2 := by simp [gZ, mk]
theorem shp_mk {x : Nat × Nat} {r : List (Option Nat)} {a : Nat} : shp (mk G x r) a = if a = gN G then x else shp G a := by
  unfold shp mk gN
  dsimp only
  rw [List.getD_eq_getElem?_getD, List.getD_eq_getElem?_getD, List.getElem?_append]
  by_cases e : a < G.1.length
  · rw [if_pos e, if_neg (by omega)]
  · rw [if_neg e]
    by_cases e2 : a = G.1.length
    · subst e2
      rw [if_pos rfl, Nat.sub_self]
      rfl
    · rw [if_neg e2, List.getElem?_eq_none (by simp; omega), List.getElem?_eq_none (by omega)]
theorem row_mk {x : Nat × Nat} {r : List (Option Nat)} {a : Nat} (hl : G.2.length = gN G) : (mk G x r).2.getD a [] = if a = gN G then r else G.2.getD a [] := by
  unfold mk
  dsimp only
  rw [List.getD_eq_getElem?_getD, List.getD_eq_getElem?_getD, List.getElem?_append]
  by_cases e : a < G.2.length
  · rw [if_pos e, if_neg (by omega)]
  · rw [if_neg e]
    by_cases e2 : a = gN G
    · rw [if_pos e2, show a - G.2.length = 0 by omega]
      rfl
    · rw [if_neg e2, List.getElem?_eq_none (by simp; omega), List.getElem?_eq_none (by omega)]
theorem rfs_mk {x : Nat × Nat} {r : List (Option Nat)} {a j : Nat} (hl : G.2.length = gN G) : rfs (mk G x r) a j = if a = gN G then r.getD j none else rfs G a j := by
  unfold rfs
  rw [row_mk hl]
  by_cases e : a = gN G
  · rw [if_pos e, if_pos e]
  · rw [if_neg e, if_neg e]
theorem okG_mk {x : Nat × Nat} {r : List (Option Nat)} (ho : okG G) (hb : gN G < 900) (hr : 2 ≤ x.1 → r.length = x.2) : okG (mk G x r) := by
  obtain ⟨o1, o2, o3⟩ := ho
  refine ⟨by rw [gN_mk]; omega, by rw [gN_mk]; simp [mk]; exact o2, fun a ha h2 => ?_⟩
  rw [gN_mk] at ha
  rw [row_mk o2, shp_mk]
  rw [shp_mk] at h2
  by_cases e : a = gN G
  · rw [if_pos e] at h2
    rw [if_pos e, if_pos e]
    exact hr h2
  · rw [if_neg e] at h2
    rw [if_neg e, if_neg e]
    exact o3 a (by omega) h2
theorem okG_srf {a j : Nat} {r : Option Nat} (ho : okG G) : okG (srf G a j r) := by
  obtain ⟨o1, o2, o3⟩ := ho
  refine ⟨o1, by unfold srf; simp; exact o2, fun b hb h2 => ?_⟩
  have h3 := o3 b hb h2
  unfold srf
  dsimp only
  by_cases e : b = a
  · subst e
    rcases Nat.lt_or_ge b G.2.length with q | q
    · rw [getD_set q, if_pos rfl, List.length_set]
      exact h3
    · rw [List.getD_eq_getElem?_getD, List.getElem?_eq_none (by simpa using q)]
      rw [List.getD_eq_getElem?_getD, List.getElem?_eq_none q] at h3
      exact h3
  · rw [List.getD_eq_getElem?_getD, List.getElem?_set, if_neg (fun q => e q.symm), ← List.getD_eq_getElem?_getD]
    exact h3
theorem clr_ne {a b : Nat} (hb : b ≠ a) : clr h a b = h b := by
  funext j
  unfold clr
  rw [if_neg hb]
theorem celE_mk {x : Nat × Nat} {r : List (Option Nat)} {a : Nat} (hl : G.2.length = gN G) (ha : a ≠ gN G) : celE cs ba (mk G x r) (clr h (gN G)) a = celE cs ba G h a := by
  have e1 : ∀ i, rfs (mk G x r) a i = rfs G a i := fun i => by rw [rfs_mk hl, if_neg ha]
  have e2 : shp (mk G x r) a = shp G a := by rw [shp_mk, if_neg ha]
  unfold celE fvl
  rw [e2, clr_ne ha]
  simp only [e1]
theorem wsO_mk {x : Nat × Nat} {r : List (Option Nat)} (hl : G.2.length = gN G) : wsO cs ba (mk G x r) (clr h (gN G)) = wsO cs ba G h ++ [(adr ba (gN G), celE cs ba (mk G x r) (clr h (gN G)) (gN G))] := by
  unfold wsO
  rw [gN_mk, List.range_succ, List.map_append]
  congr 1
  apply List.map_congr_left
  intro a ha
  rw [celE_mk hl (Nat.ne_of_lt (List.mem_range.mp ha))]
/-- a new cell's address -/
theorem new_adr {q : Nat} {E : va_E} {H1 : Heap} {cells : Nat} (hg : gN G ≤ 899) (hn : n0 ≤ gN G) (hs0 : s.heap.size = ba.1 + n0) (hc : cells = gN G - n0 + 1) (hP1 : va_P D vwCl (wsO cs ba G h ++ [(q, E)]) H1) (hD1 : va_D (AA ba) (wsO cs ba G h ++ [(q, E)])) (hsz : H1.size ≤ s.heap.size + cells) : q = adr ba (gN G) := by
  have hl : (wsO cs ba G h).length = gN G := by simp [wsO]
  have hq : (wsO cs ba G h ++ [(q, E)])[gN G]? = some (q, E) := by rw [List.getElem?_append_right (by omega), hl, Nat.sub_self]; rfl
  have h1 : q < H1.size := (hP1 _ _ hq).lt
  have h2 : ba.1 ≤ q := hD1.2 _ _ hq
  rw [adr_lo (by omega)]
  rcases Nat.lt_or_ge (q - ba.1) (gN G) with z | z
  · have h3 : (wsO cs ba G h ++ [(q, E)])[q - ba.1]? = some (adr ba (q - ba.1), celE cs ba G h (q - ba.1)) := by rw [List.getElem?_append_left (by omega)]; exact wsO_get z
    have h4 := hD1.1 _ _ _ _ hq h3 (by show q = adr ba (q - ba.1); rw [adr_lo (by omega)]; omega)
    omega
  · omega
theorem FZ_clr {a : Nat} {H : Heap} (ha : a < 1000) (q : FZ ba h s H) : FZ ba (clr h a) s H := FZ_h (fun b hb => clr_ne (by omega)) q
theorem df_0 {ci j : Nat} (hc : ci < 4) (hj : j < fN ci) : fvl ba (mk G (4 + ci, fN ci) (List.replicate (fN ci) none)) (clr h (gN G)) ci (gN G) j = defaultValue (cTy ci j) ∨ G.2.length ≠ gN G := by
  by_cases hl : G.2.length = gN G
  · left
    obtain ⟨f0, f1, f3, f2, f4⟩ := fty_ok ci hc j hj
    have hcases : fty ci j = 0 ∨ fty ci j = 1 ∨ fty ci j = 2 ∨ fty ci j = 3 := by omega
    have hcl : clr h (gN G) (gN G) j = 0 := by unfold clr; rw [if_pos rfl]
    rcases hcases with e | e | e | e
    · rw [fvl_0 (Or.inl e), hcl, f0 e]; rfl
    · rw [fvl_1 e, hcl, f1 e]; rfl
    · rw [fvl_2 e, rfs_mk hl, if_pos rfl]
      have h5 : (List.replicate (fN ci) (none : Option Nat)).getD j none = none := by rw [List.getD_eq_getElem?_getD, List.getElem?_replicate]; split <;> rfl
      rw [h5]
      have h6 := f2 e
      generalize cTy ci j = t at h6
      cases t <;> first | (cases h6; done) | rfl
    · rw [fvl_0 (Or.inr e), hcl, f3 e]; rfl
  · exact Or.inr hl
theorem s_new {ci i : Nat} (C : CT k p s m args meth c D cs ba n0) (hd : decode (P_b k) pc = .ok (.new i, 3)) (hc : ci < 4) (hb9 : gN G < 900) (w1 : Cond.classLink (P_o k) i (cR ci) ∈ AWS) (w2 : Cond.instantiable (cR ci) (fN ci) ∈ AWS) (w3 : Cond.initialized (cR ci) ∈ AWS) (hR1 : gN G + 1 - n0 ≤ R.cells) (hR2 : gZ G + fN ci - z0 ≤ R.slots) (kk : GO p l e R s m args below meth c D cs ba n0 z0 Q (pc + 3) ls (.inr (.inr (some (gN G))) :: st) (mk G (4 + ci, fN ci) (List.replicate (fN ci) none)) (clr h (gN G))) : GO p l e R s m args below meth c D cs ba n0 z0 Q pc ls st G h := by
  obtain ⟨hx, hb, hr, hml, hown, hts, hlk, hnm, hN, hK, hs0⟩ := C
  intro arr H locs hL hP hS hF hgg hn hz
  have hg := hgg.1
  refine va_new (ci := ci) (fs := (List.range (fN ci)).map (fun j => fvl ba (mk G (4 + ci, fN ci) (List.replicate (fN ci) none)) (clr h (gN G)) ci (gN G) j)) hx hb hts (uws_all hc) (cTy ci) (ty_all hc) hown (hts _ w1) (hts _ w2) (hts _ w3) hK hP (wsO_D hg) hS (fun q hq => by show ba.1 ≤ q; omega) (cl_all hc) (fun j hj => ?_) (by omega) (by omega) hd (fun q H1 hP1 hD1 hS1 => ?_)
  · unfold vp_V
    rw [List.getD_eq_getElem?_getD, fld_get hj]
    exact ((df_0 hc hj).resolve_right (fun z => z hgg.2.1)).symm
  refine W_bd (fun hsz => ?_)
  have hq := new_adr (by omega) hn hs0 rfl hP1 hD1 hsz
  subst hq
  have q := kk arr H1 locs hL (by rw [wsO_mk hgg.2.1, celE_o (ci := ci) (by rw [shp_mk, if_pos rfl])]; exact hP1) hS1 (FZ_clr (by omega) hF) (okG_mk hgg hb9 (fun _ => by simp)) (by rw [gN_mk]; omega) (by rw [gZ_mk]; omega)
  rw [gN_mk, gZ_mk] at q
  rw [show gN G - n0 + 1 = gN G + 1 - n0 by omega, show gZ G - z0 + fN ci = gZ G + fN ci - z0 by omega]
  exact q
theorem s_newi {n : Int} (C : CT k p s m args meth c D cs ba n0) (hd : decode (P_b k) pc = .ok (.newarray .int, 2)) (hv : 0 ≤ n ∧ n ≤ 1000) (hb9 : gN G < 900) (w1 : Cond.arrayClass .int ∈ AWS) (hR1 : gN G + 1 - n0 ≤ R.cells) (hR2 : gZ G + n.toNat - z0 ≤ R.slots) (kk : GO p l e R s m args below meth c D cs ba n0 z0 Q (pc + 2) ls (.inr (.inr (some (gN G))) :: st) (mk G (0, n.toNat) []) (clr h (gN G))) : GO p l e R s m args below meth c D cs ba n0 z0 Q pc ls (.inl n :: st) G h := by
  obtain ⟨hx, hb, hr, hml, hown, hts, hlk, hnm, hN, hK, hs0⟩ := C
  intro arr H locs hL hP hS hF hgg hn hz
  have hg := hgg.1
  have hi : ¬ Int32.ofInt n < 0 := by
    rw [show (0 : Int32) = Int32.ofInt 0 from rfl, i32_lt (by omega) (by omega)]
    omega
  have hi2 : (Int32.ofInt n).toNatClampNeg = n.toNat := Int32.toNatClampNeg_ofInt_of_le (by omega) (by omega)
  refine va_newa (atype := .int) (ty := .int) (a0 := (n.toNat, .inl (fun j => Int32.ofInt (clr h (gN G) (gN G) j)))) hx hb (hts _ w1) rfl hK hP (wsO_D hg) hS (fun q hq => by show ba.1 ≤ q; omega) (fun cA => ?_) hi hi2 (by simp [componentBytes]; omega) (by omega) (by omega) hd (fun q cA H1 hK1 hP1 hD1 hS1 => ?_)
  · rw [vp_cell_i]
    congr 1
    funext j
    unfold clr
    rw [if_pos rfl]
    rfl
  have hcA : cA = cs.1 := Option.some.inj (((hK1.2 4 (cA, .int) rfl).2).symm.trans (hK.2 0 (cs.1, .int) rfl).2)
  subst hcA
  refine W_bd (fun hsz => ?_)
  have hq := new_adr (by omega) hn hs0 rfl hP1 hD1 hsz
  subst hq
  have q := kk arr H1 locs hL (by rw [wsO_mk hgg.2.1, celE_0 (by rw [shp_mk, if_pos rfl]), show (shp (mk G (0, n.toNat) []) (gN G)).2 = n.toNat by rw [shp_mk, if_pos rfl]]; exact hP1) hS1 (FZ_clr (by omega) hF) (okG_mk hgg hb9 (fun z => by simp at z)) (by rw [gN_mk]; omega) (by rw [gZ_mk]; omega)
  rw [gN_mk, gZ_mk] at q
  rw [show gN G - n0 + 1 = gN G + 1 - n0 by omega, show gZ G - z0 + n.toNat = gZ G + n.toNat - z0 by omega]
  exact q
theorem s_newz {n : Int} (C : CT k p s m args meth c D cs ba n0) (hd : decode (P_b k) pc = .ok (.newarray .boolean, 2)) (hv : 0 ≤ n ∧ n ≤ 1000) (hb9 : gN G < 900) (w1 : Cond.arrayClass .boolean ∈ AWS) (hR1 : gN G + 1 - n0 ≤ R.cells) (hR2 : gZ G + n.toNat - z0 ≤ R.slots) (kk : GO p l e R s m args below meth c D cs ba n0 z0 Q (pc + 2) ls (.inr (.inr (some (gN G))) :: st) (mk G (1, n.toNat) []) (clr h (gN G))) : GO p l e R s m args below meth c D cs ba n0 z0 Q pc ls (.inl n :: st) G h := by
  obtain ⟨hx, hb, hr, hml, hown, hts, hlk, hnm, hN, hK, hs0⟩ := C
  intro arr H locs hL hP hS hF hgg hn hz
  have hg := hgg.1
  have hi : ¬ Int32.ofInt n < 0 := by
    rw [show (0 : Int32) = Int32.ofInt 0 from rfl, i32_lt (by omega) (by omega)]
    omega
  have hi2 : (Int32.ofInt n).toNatClampNeg = n.toNat := Int32.toNatClampNeg_ofInt_of_le (by omega) (by omega)
  refine va_newa (atype := .boolean) (ty := .boolean) (a0 := (n.toNat, .inl (fun j => Int32.ofInt (clr h (gN G) (gN G) j)))) hx hb (hts _ w1) rfl hK hP (wsO_D hg) hS (fun q hq => by show ba.1 ≤ q; omega) (fun cA => ?_) hi hi2 (by simp [componentBytes]; omega) (by omega) (by omega) hd (fun q cA H1 hK1 hP1 hD1 hS1 => ?_)
  · rw [vp_cell_i]
    congr 1
    funext j
    unfold clr
    rw [if_pos rfl]
    rfl
  have hcA : cA = cs.2.1 := Option.some.inj (((hK1.2 4 (cA, .boolean) rfl).2).symm.trans (hK.2 1 (cs.2.1, .boolean) rfl).2)
  subst hcA
  refine W_bd (fun hsz => ?_)
  have hq := new_adr (by omega) hn hs0 rfl hP1 hD1 hsz
  subst hq
  have q := kk arr H1 locs hL (by rw [wsO_mk hgg.2.1, celE_1 (by rw [shp_mk, if_pos rfl]), show (shp (mk G (1, n.toNat) []) (gN G)).2 = n.toNat by rw [shp_mk, if_pos rfl]]; exact hP1) hS1 (FZ_clr (by omega) hF) (okG_mk hgg hb9 (fun z => by simp at z)) (by rw [gN_mk]; omega) (by rw [gZ_mk]; omega)
  rw [gN_mk, gZ_mk] at q
  rw [show gN G - n0 + 1 = gN G + 1 - n0 by omega, show gZ G - z0 + n.toNat = gZ G + n.toNat - z0 by omega]
  exact q
theorem s_newR {n : Int} {i : Nat} (C : CT k p s m args meth c D cs ba n0) (hd : decode (P_b k) pc = .ok (.anewarray i, 3)) (hv : 0 ≤ n ∧ n ≤ 1000) (hb9 : gN G < 900) (w1 : Cond.classLink (P_o k) i RX0 ∈ AWS) (hR1 : gN G + 1 - n0 ≤ R.cells) (hR2 : gZ G + n.toNat - z0 ≤ R.slots) (kk : GO p l e R s m args below meth c D cs ba n0 z0 Q (pc + 3) ls (.inr (.inr (some (gN G))) :: st) (mk G (2, n.toNat) (List.replicate n.toNat none)) (clr h (gN G))) : GO p l e R s m args below meth c D cs ba n0 z0 Q pc ls (.inl n :: st) G h := by
  obtain ⟨hx, hb, hr, hml, hown, hts, hlk, hnm, hN, hK, hs0⟩ := C
  intro arr H locs hL hP hS hF hgg hn hz
  have hg := hgg.1
  have hi : ¬ Int32.ofInt n < 0 := by
    rw [show (0 : Int32) = Int32.ofInt 0 from rfl, i32_lt (by omega) (by omega)]
    omega
  have hi2 : (Int32.ofInt n).toNatClampNeg = n.toNat := Int32.toNatClampNeg_ofInt_of_le (by omega) (by omega)
  refine va_newq (C := RX0) hx hb hown (hts _ w1) hN.2.1 hK hP (wsO_D hg) hS (fun q hq => by show ba.1 ≤ q; omega) hi hi2 (by omega) (by omega) (by omega) hd (fun q cA H1 hK1 hP1 hD1 hS1 => ?_)
  have hcA : cA = cs.2.2.1 := by
    obtain ⟨_, _, _, _, _, u1⟩ := (hK1.2 4 (cA, .object RX0) rfl).2
    obtain ⟨_, _, _, _, _, u2⟩ := (hK.2 2 (cs.2.2.1, .object RX0) rfl).2
    exact Option.some.inj (u1.symm.trans u2)
  subst hcA
  have hfn : (fun j => (rfs (mk G (2, n.toNat) (List.replicate n.toNat none)) (gN G) j).map (adr ba)) = (fun _ => (none : Option Nat)) := by
    funext j
    rw [rfs_mk hgg.2.1, if_pos rfl]
    have h5 : (List.replicate n.toNat (none : Option Nat)).getD j none = none := by rw [List.getD_eq_getElem?_getD, List.getElem?_replicate]; split <;> rfl
    rw [h5]
    rfl
  refine W_bd (fun hsz => ?_)
  have hq := new_adr (by omega) hn hs0 rfl hP1 hD1 hsz
  subst hq
  have q := kk arr H1 locs hL (by rw [wsO_mk hgg.2.1, celE_2 (by rw [shp_mk, if_pos rfl]), show (shp (mk G (2, n.toNat) (List.replicate n.toNat none)) (gN G)).2 = n.toNat by rw [shp_mk, if_pos rfl], hfn]; exact hP1) hS1 (FZ_clr (by omega) hF) (okG_mk hgg hb9 (fun _ => by simp)) (by rw [gN_mk]; omega) (by rw [gZ_mk]; omega)
  rw [gN_mk, gZ_mk] at q
  rw [show gN G - n0 + 1 = gN G + 1 - n0 by omega, show gZ G - z0 + n.toNat = gZ G + n.toNat - z0 by omega]
  exact q
theorem s_newT {n : Int} {i : Nat} (C : CT k p s m args meth c D cs ba n0) (hd : decode (P_b k) pc = .ok (.anewarray i, 3)) (hv : 0 ≤ n ∧ n ≤ 1000) (hb9 : gN G < 900) (w1 : Cond.classLink (P_o k) i RX1 ∈ AWS) (hR1 : gN G + 1 - n0 ≤ R.cells) (hR2 : gZ G + n.toNat - z0 ≤ R.slots) (kk : GO p l e R s m args below meth c D cs ba n0 z0 Q (pc + 3) ls (.inr (.inr (some (gN G))) :: st) (mk G (3, n.toNat) (List.replicate n.toNat none)) (clr h (gN G))) : GO p l e R s m args below meth c D cs ba n0 z0 Q pc ls (.inl n :: st) G h := by
  obtain ⟨hx, hb, hr, hml, hown, hts, hlk, hnm, hN, hK, hs0⟩ := C
  intro arr H locs hL hP hS hF hgg hn hz
  have hg := hgg.1
  have hi : ¬ Int32.ofInt n < 0 := by
    rw [show (0 : Int32) = Int32.ofInt 0 from rfl, i32_lt (by omega) (by omega)]
    omega
  have hi2 : (Int32.ofInt n).toNatClampNeg = n.toNat := Int32.toNatClampNeg_ofInt_of_le (by omega) (by omega)
  refine va_newq (C := RX1) hx hb hown (hts _ w1) hN.2.2 hK hP (wsO_D hg) hS (fun q hq => by show ba.1 ≤ q; omega) hi hi2 (by omega) (by omega) (by omega) hd (fun q cA H1 hK1 hP1 hD1 hS1 => ?_)
  have hcA : cA = cs.2.2.2 := by
    obtain ⟨_, _, _, _, _, u1⟩ := (hK1.2 4 (cA, .object RX1) rfl).2
    obtain ⟨_, _, _, _, _, u2⟩ := (hK.2 3 (cs.2.2.2, .object RX1) rfl).2
    exact Option.some.inj (u1.symm.trans u2)
  subst hcA
  have hfn : (fun j => (rfs (mk G (3, n.toNat) (List.replicate n.toNat none)) (gN G) j).map (adr ba)) = (fun _ => (none : Option Nat)) := by
    funext j
    rw [rfs_mk hgg.2.1, if_pos rfl]
    have h5 : (List.replicate n.toNat (none : Option Nat)).getD j none = none := by rw [List.getD_eq_getElem?_getD, List.getElem?_replicate]; split <;> rfl
    rw [h5]
    rfl
  refine W_bd (fun hsz => ?_)
  have hq := new_adr (by omega) hn hs0 rfl hP1 hD1 hsz
  subst hq
  have q := kk arr H1 locs hL (by rw [wsO_mk hgg.2.1, celE_3 (by rw [shp_mk, if_pos rfl]), show (shp (mk G (3, n.toNat) (List.replicate n.toNat none)) (gN G)).2 = n.toNat by rw [shp_mk, if_pos rfl], hfn]; exact hP1) hS1 (FZ_clr (by omega) hF) (okG_mk hgg hb9 (fun _ => by simp)) (by rw [gN_mk]; omega) (by rw [gZ_mk]; omega)
  rw [gN_mk, gZ_mk] at q
  rw [show gN G - n0 + 1 = gN G + 1 - n0 by omega, show gZ G - z0 + n.toNat = gZ G + n.toNat - z0 by omega]
  exact q
theorem s_aast {a b : Nat} {i : Int} (C : CT k p s m args meth c D cs ba n0) (hd : decode (P_b k) pc = .ok (.aastore, 1)) (hv : (((shp G a).1 = 2 ∧ (shp G b).1 = 4) ∨ ((shp G a).1 = 3 ∧ (shp G b).1 = 5)) ∧ 0 ≤ i ∧ i < (shp G a).2 ∧ (shp G a).2 ≤ 100000) (kk : GO p l e R s m args below meth c D cs ba n0 z0 Q (pc + 1) ls st (srf G a i.toNat (some b)) h) : GO p l e R s m args below meth c D cs ba n0 z0 Q pc ls (.inr (.inr (some b)) :: .inl i :: .inr (.inr (some a)) :: st) G h := by
  obtain ⟨hx, hb, hr, hml, hown, hts, hlk, hnm, hN, hK, hs0⟩ := C
  intro arr H locs hL hP hS hF hgg hn hz
  have hg := hgg.1
  obtain ⟨v1, v2, v3, v4⟩ := hv
  obtain ⟨i1, i2⟩ := i32_in (n := (shp G a).2) v2 v3 (by omega)
  rcases v1 with ⟨u1, u2⟩ | ⟨u1, u2⟩
  · skip
    have ha := shp_lt u1 (by omega)
    have hb1 := shp_lt u2 (by omega)
    have hw := wsO_get (cs := cs) (ba := ba) (h := h) ha
    have hw2 := wsO_get (cs := cs) (ba := ba) (h := h) hb1
    rw [celE_2 u1] at hw
    rw [celE_o (ci := 0) u2] at hw2
    have hlr : i.toNat < (G.2.getD a []).length := by rw [hgg.2.2 a ha (by omega)]; omega
    refine va_astq hx hb hK hP (wsO_D hg) hS a 2 b 0 hw rfl hw2 (cl_all (ci := 0) (by omega)) i1 hd (fun H1 locs1 hP1 _ hS1 => ?_)
    have e0 : ((Sum.inl (cs.2.2.1, (shp G a).2, .inr (.inr (.inr (.inr (va_up (fun j => (rfs G a j).map (adr ba)) (Int32.ofInt i).toNatClampNeg (some (adr ba b)))))))) : va_E) = celE cs ba (srf G a i.toNat (some b)) h a := by
      rw [celE_2 (G := srf G a i.toNat (some b)) u1, i2]
      show _ = ((Sum.inl (cs.2.2.1, (shp G a).2, _)) : va_E)
      congr 7
      funext j
      rw [rfs_set (by rw [hgg.2.1]; exact ha) hlr]
      unfold va_up
      by_cases ej : j = i.toNat
      · rw [if_pos ej, if_pos ej]
        rfl
      · rw [if_neg ej, if_neg ej]
    rw [e0, wsO_set (G := G) (G' := srf G a i.toNat (some b)) (h := h) (h' := h) rfl (fun b2 hb2 => celE_r hb2)] at hP1
    exact kk arr H1 locs1 hL hP1 hS1 hF (okG_srf hgg) hn hz
  · skip
    have ha := shp_lt u1 (by omega)
    have hb1 := shp_lt u2 (by omega)
    have hw := wsO_get (cs := cs) (ba := ba) (h := h) ha
    have hw2 := wsO_get (cs := cs) (ba := ba) (h := h) hb1
    rw [celE_3 u1] at hw
    rw [celE_o (ci := 1) u2] at hw2
    have hlr : i.toNat < (G.2.getD a []).length := by rw [hgg.2.2 a ha (by omega)]; omega
    refine va_astq hx hb hK hP (wsO_D hg) hS a 3 b 1 hw rfl hw2 (cl_all (ci := 1) (by omega)) i1 hd (fun H1 locs1 hP1 _ hS1 => ?_)
    have e0 : ((Sum.inl (cs.2.2.2, (shp G a).2, .inr (.inr (.inr (.inr (va_up (fun j => (rfs G a j).map (adr ba)) (Int32.ofInt i).toNatClampNeg (some (adr ba b)))))))) : va_E) = celE cs ba (srf G a i.toNat (some b)) h a := by
      rw [celE_3 (G := srf G a i.toNat (some b)) u1, i2]
      show _ = ((Sum.inl (cs.2.2.2, (shp G a).2, _)) : va_E)
      congr 7
      funext j
      rw [rfs_set (by rw [hgg.2.1]; exact ha) hlr]
      unfold va_up
      by_cases ej : j = i.toNat
      · rw [if_pos ej, if_pos ej]
        rfl
      · rw [if_neg ej, if_neg ej]
    rw [e0, wsO_set (G := G) (G' := srf G a i.toNat (some b)) (h := h) (h' := h) rfl (fun b2 hb2 => celE_r hb2)] at hP1
    exact kk arr H1 locs1 hL hP1 hS1 hF (okG_srf hgg) hn hz
end
