/-! 15: rows: arrays, fields, new cells -/
section
variable {p : Program} {l : Launch} {e : Env} {R : Room} {s : State} {m : MethodId} {args : Array Value} {below : List Frame} {meth : Method} {c : Code} {D : va_G} {cs : CS} {ba : BA} {n0 z0 : Nat} {Q : State → Prop} {k pc : Nat} {ls : LC} {st : List AV} {G : AG} {h : AH}

theorem celE_0 {a : Nat} (e0 : (shp G a).1 = 0) : celE cs ba G h a = .inl (cs.1, (shp G a).2, .inl (fun j => Int32.ofInt (h a j))) := by unfold celE; rw [e0]
theorem celE_1 {a : Nat} (e0 : (shp G a).1 = 1) : celE cs ba G h a = .inl (cs.2.1, (shp G a).2, .inl (fun j => Int32.ofInt (h a j))) := by unfold celE; rw [e0]
theorem celE_2 {a : Nat} (e0 : (shp G a).1 = 2) : celE cs ba G h a = .inl (cs.2.2.1, (shp G a).2, .inr (.inr (.inr (.inr (fun j => (rfs G a j).map (adr ba)))))) := by unfold celE; rw [e0]
theorem celE_3 {a : Nat} (e0 : (shp G a).1 = 3) : celE cs ba G h a = .inl (cs.2.2.2, (shp G a).2, .inr (.inr (.inr (.inr (fun j => (rfs G a j).map (adr ba)))))) := by unfold celE; rw [e0]
theorem celE_o {a ci : Nat} (e0 : (shp G a).1 = 4 + ci) : celE cs ba G h a = .inr (ci, (List.range (fN ci)).map (fun j => fvl ba G h ci a j)) := by unfold celE; rw [e0, Nat.add_comm]
theorem shp_lt {a n : Nat} (e0 : (shp G a).1 = n) (hn : n ≠ 99) : a < gN G := by
  rcases Nat.lt_or_ge a (gN G) with q | q
  · exact q
  · unfold shp at e0
    rw [List.getD_eq_getElem?_getD, List.getElem?_eq_none q] at e0
    exact absurd e0.symm hn
theorem put_ne {a b k0 : Nat} {v : Int} (hb : b ≠ a) : put h a k0 v b = h b := by
  funext j
  unfold put
  rw [if_neg (fun q => hb q.1)]
/-- a cell depends on its own row alone -/
theorem celE_h {h' : AH} {b : Nat} (hb : h' b = h b) : celE cs ba G h' b = celE cs ba G h b := by
  unfold celE fvl
  rw [hb]
theorem celE_r {r : Option Nat} {a b j : Nat} (hb : b ≠ a) : celE cs ba (srf G a j r) h b = celE cs ba G h b := by
  have e1 : ∀ i, rfs (srf G a j r) b i = rfs G b i := by
    intro i
    unfold rfs srf
    dsimp only
    congr 1
    rw [List.getD_eq_getElem?_getD, List.getElem?_set, if_neg (fun q => hb q.symm)]
    exact (List.getD_eq_getElem?_getD).symm
  have e2 : shp (srf G a j r) b = shp G b := rfl
  unfold celE fvl
  rw [e2]
  simp only [e1]
theorem FZ_put {a k0 : Nat} {v : Int} {H : Heap} (ha : a < 1000) (q : FZ ba h s H) : FZ ba (put h a k0 v) s H := FZ_h (fun b hb => put_ne (by omega)) q
theorem s_iald {a : Nat} {i : Int} (C : CT k p s m args meth c D cs ba n0) (hd : decode (P_b k) pc = .ok (.iaload, 1)) (hv : akd G a = 0 ∧ 0 ≤ i ∧ i < aln G h a ∧ aln G h a ≤ 100000) (kk : GO p l e R s m args below meth c D cs ba n0 z0 Q (pc + 1) ls (.inl (h a i.toNat) :: st) G h) : GO p l e R s m args below meth c D cs ba n0 z0 Q pc ls (.inl i :: .inr (.inr (some a)) :: st) G h := by
  obtain ⟨hx, hb, hr, hml, hown, hts, hlk, hnm, hN, hK, hs0⟩ := C
  intro arr H locs hL hP hS hF hgg hn hz
  have hg := hgg.1
  obtain ⟨v1, v2, v3, v4⟩ := hv
  unfold aln at v3 v4
  unfold akd at v1
  by_cases e1 : a = 1000
  · subst e1
    simp only [if_true] at v3 v4
    obtain ⟨i1, i2⟩ := i32_in (n := 16) v2 (by omega) (by omega)
    exact va_ti (f := fun j => .int (Int32.ofInt (h 1000 j))) hx hb hF.2.1 hS i1 (by rw [i2]; rfl) hd (kk arr H locs hL hP hS hF hgg hn hz)
  by_cases e2 : a = 1001
  · subst e2
    simp only [if_neg (show ¬ (1001 = 1000) by omega), if_true] at v3 v4
    rw [hF.2.2.2] at v3 v4
    obtain ⟨i1, i2⟩ := i32_in (n := ba.2.2.2) v2 (by omega) (by omega)
    exact va_ti (f := fun j => .int (Int32.ofInt (h 1001 j))) hx hb hF.2.2.1 hS i1 (by rw [i2]; rfl) hd (kk arr H locs hL hP hS hF hgg hn hz)
  rw [if_neg (by omega)] at v1
  rw [if_neg e1, if_neg e2] at v3 v4
  have ha := shp_lt v1 (by omega)
  obtain ⟨i1, i2⟩ := i32_in (n := (shp G a).2) v2 v3 (by omega)
  have hw := wsO_get (cs := cs) (ba := ba) (h := h) ha
  rw [celE_0 v1] at hw
  refine va_iald hx hb hK hP a 0 hw rfl i1 hd ?_
  rw [i2]
  exact kk arr H locs hL hP hS hF hgg hn hz
theorem s_bald {a : Nat} {i : Int} (C : CT k p s m args meth c D cs ba n0) (hd : decode (P_b k) pc = .ok (.baload, 1)) (hv : akd G a = 1 ∧ 0 ≤ i ∧ i < aln G h a ∧ aln G h a ≤ 100000) (kk : GO p l e R s m args below meth c D cs ba n0 z0 Q (pc + 1) ls (.inl (h a i.toNat) :: st) G h) : GO p l e R s m args below meth c D cs ba n0 z0 Q pc ls (.inl i :: .inr (.inr (some a)) :: st) G h := by
  obtain ⟨hx, hb, hr, hml, hown, hts, hlk, hnm, hN, hK, hs0⟩ := C
  intro arr H locs hL hP hS hF hgg hn hz
  have hg := hgg.1
  obtain ⟨v1, v2, v3, v4⟩ := hv
  unfold aln at v3 v4
  unfold akd at v1
  by_cases e0 : a = 1000 ∨ a = 1001
  · rw [if_pos e0] at v1
    cases v1
  rw [if_neg e0] at v1
  rw [if_neg (by omega), if_neg (by omega)] at v3 v4
  have ha := shp_lt v1 (by omega)
  obtain ⟨i1, i2⟩ := i32_in (n := (shp G a).2) v2 v3 (by omega)
  have hw := wsO_get (cs := cs) (ba := ba) (h := h) ha
  rw [celE_1 v1] at hw
  refine va_zald hx hb hK hP a 1 hw rfl i1 hd ?_
  rw [i2]
  exact kk arr H locs hL hP hS hF hgg hn hz
theorem s_aald {a : Nat} {i : Int} (C : CT k p s m args meth c D cs ba n0) (hd : decode (P_b k) pc = .ok (.aaload, 1)) (hv : ((shp G a).1 = 2 ∨ (shp G a).1 = 3) ∧ 0 ≤ i ∧ i < (shp G a).2 ∧ (shp G a).2 ≤ 100000) (kk : GO p l e R s m args below meth c D cs ba n0 z0 Q (pc + 1) ls (.inr (.inr (rfs G a i.toNat)) :: st) G h) : GO p l e R s m args below meth c D cs ba n0 z0 Q pc ls (.inl i :: .inr (.inr (some a)) :: st) G h := by
  obtain ⟨hx, hb, hr, hml, hown, hts, hlk, hnm, hN, hK, hs0⟩ := C
  intro arr H locs hL hP hS hF hgg hn hz
  have hg := hgg.1
  obtain ⟨v1, v2, v3, v4⟩ := hv
  obtain ⟨i1, i2⟩ := i32_in (n := (shp G a).2) v2 v3 (by omega)
  have q := kk arr H locs hL hP hS hF hgg hn hz
  rw [List.map_cons, cv_r] at q
  have ha : a < gN G := by rcases v1 with v1 | v1 <;> exact shp_lt v1 (by omega)
  have hw := wsO_get (cs := cs) (ba := ba) (h := h) ha
  have hne : ¬ (a = 1000 ∨ a = 1001) := by omega
  rcases v1 with v1 | v1
  · rw [celE_2 v1] at hw
    refine va_aldq (C := RX0) hx hb hK hP a 2 hw rfl i1 hd ?_
    rw [i2]
    exact q
  · rw [celE_3 v1] at hw
    refine va_aldq (C := RX1) hx hb hK hP a 3 hw rfl i1 hd ?_
    rw [i2]
    exact q
theorem s_iast {a : Nat} {x i : Int} (C : CT k p s m args meth c D cs ba n0) (hd : decode (P_b k) pc = .ok (.iastore, 1)) (hv : a < 1000 ∧ (shp G a).1 = 0 ∧ 0 ≤ i ∧ i < (shp G a).2 ∧ (shp G a).2 ≤ 100000) (kk : GO p l e R s m args below meth c D cs ba n0 z0 Q (pc + 1) ls st G (put h a i.toNat x)) : GO p l e R s m args below meth c D cs ba n0 z0 Q pc ls (.inl x :: .inl i :: .inr (.inr (some a)) :: st) G h := by
  obtain ⟨hx, hb, hr, hml, hown, hts, hlk, hnm, hN, hK, hs0⟩ := C
  intro arr H locs hL hP hS hF hgg hn hz
  have hg := hgg.1
  obtain ⟨v0, v1, v2, v3, v4⟩ := hv
  obtain ⟨i1, i2⟩ := i32_in (n := (shp G a).2) v2 v3 (by omega)
  have ha := shp_lt v1 (by omega)
  have hw := wsO_get (cs := cs) (ba := ba) (h := h) ha
  rw [celE_0 v1] at hw
  refine va_iast hx hb hK hP (wsO_D hg) hS a 0 hw rfl i1 hd (fun H1 locs1 hP1 _ hS1 => ?_)
  have e0 : ((Sum.inl (cs.1, (shp G a).2, .inl (upd (fun j => Int32.ofInt (h a j)) (Int32.ofInt i).toNatClampNeg (Int32.ofInt x)))) : va_E) = celE cs ba G (put h a i.toNat x) a := by
    rw [celE_0 v1, i2]
    congr 4
    funext j
    unfold upd put
    by_cases ej : j = i.toNat
    · rw [if_pos ej, if_pos ⟨rfl, ej⟩]
    · rw [if_neg ej, if_neg (fun q => ej q.2)]
  rw [e0, wsO_set rfl (fun b hb1 => celE_h (put_ne hb1))] at hP1
  exact kk arr H1 locs1 hL hP1 hS1 (FZ_put v0 hF) hgg hn hz
theorem s_bast {a : Nat} {x i : Int} (C : CT k p s m args meth c D cs ba n0) (hd : decode (P_b k) pc = .ok (.bastore, 1)) (hv : a < 1000 ∧ (shp G a).1 = 1 ∧ 0 ≤ i ∧ i < (shp G a).2 ∧ (shp G a).2 ≤ 100000) (hx01 : x = 0 ∨ x = 1) (kk : GO p l e R s m args below meth c D cs ba n0 z0 Q (pc + 1) ls st G (put h a i.toNat x)) : GO p l e R s m args below meth c D cs ba n0 z0 Q pc ls (.inl x :: .inl i :: .inr (.inr (some a)) :: st) G h := by
  obtain ⟨hx, hb, hr, hml, hown, hts, hlk, hnm, hN, hK, hs0⟩ := C
  intro arr H locs hL hP hS hF hgg hn hz
  have hg := hgg.1
  obtain ⟨v0, v1, v2, v3, v4⟩ := hv
  obtain ⟨i1, i2⟩ := i32_in (n := (shp G a).2) v2 v3 (by omega)
  have ha := shp_lt v1 (by omega)
  have hw := wsO_get (cs := cs) (ba := ba) (h := h) ha
  rw [celE_1 v1] at hw
  have hnar : vp_nar .boolean (Int32.ofInt x) = Int32.ofInt x := by rcases hx01 with rfl | rfl <;> decide
  refine va_zast hx hb hK hP (wsO_D hg) hS a 1 hw rfl i1 hd (fun H1 locs1 hP1 _ hS1 => ?_)
  have e0 : ((Sum.inl (cs.2.1, (shp G a).2, .inl (upd (fun j => Int32.ofInt (h a j)) (Int32.ofInt i).toNatClampNeg (vp_nar .boolean (Int32.ofInt x))))) : va_E) = celE cs ba G (put h a i.toNat x) a := by
    rw [celE_1 v1, i2, hnar]
    congr 4
    funext j
    unfold upd put
    by_cases ej : j = i.toNat
    · rw [if_pos ej, if_pos ⟨rfl, ej⟩]
    · rw [if_neg ej, if_neg (fun q => ej q.2)]
  rw [e0, wsO_set rfl (fun b hb1 => celE_h (put_ne hb1))] at hP1
  exact kk arr H1 locs1 hL hP1 hS1 (FZ_put v0 hF) hgg hn hz
theorem s_alen {a : Nat} (C : CT k p s m args meth c D cs ba n0) (hd : decode (P_b k) pc = .ok (.arraylength, 1)) (hv : akd G a ≤ 3 ∧ 0 ≤ aln G h a ∧ aln G h a ≤ 100000) (kk : GO p l e R s m args below meth c D cs ba n0 z0 Q (pc + 1) ls (.inl (aln G h a) :: st) G h) : GO p l e R s m args below meth c D cs ba n0 z0 Q pc ls (.inr (.inr (some a)) :: st) G h := by
  obtain ⟨hx, hb, hr, hml, hown, hts, hlk, hnm, hN, hK, hs0⟩ := C
  intro arr H locs hL hP hS hF hgg hn hz
  have hg := hgg.1
  obtain ⟨v1, v2, v3⟩ := hv
  have q := kk arr H locs hL hP hS hF hgg hn hz
  unfold akd at v1
  unfold aln at v2 v3 q
  by_cases e1 : a = 1000
  · subst e1
    simp only [if_true] at q
    exact va_tlen hx hb hF.2.1 hS rfl hd q
  by_cases e2 : a = 1001
  · subst e2
    simp only [if_neg (show ¬ (1001 = 1000) by omega), if_true] at q
    rw [hF.2.2.2] at q
    exact va_tlen hx hb hF.2.2.1 hS Int32.ofInt_eq_ofNat.symm hd q
  rw [if_neg (by omega)] at v1
  rw [if_neg e1, if_neg e2] at q
  have ha : a < gN G := shp_lt (n := (shp G a).1) rfl (by omega)
  have hw := wsO_get (cs := cs) (ba := ba) (h := h) ha
  have hc : (shp G a).1 = 0 ∨ (shp G a).1 = 1 ∨ (shp G a).1 = 2 ∨ (shp G a).1 = 3 := by omega
  rcases hc with v | v | v | v
  · rw [celE_0 v] at hw
    exact va_alen hx hb hK hP a 0 hw (ty := .int) rfl Int32.ofInt_eq_ofNat.symm hd q
  · rw [celE_1 v] at hw
    exact va_alen hx hb hK hP a 1 hw (ty := .boolean) rfl Int32.ofInt_eq_ofNat.symm hd q
  · rw [celE_2 v] at hw
    exact va_alen hx hb hK hP a 2 hw (ty := .object RX0) rfl Int32.ofInt_eq_ofNat.symm hd q
  · rw [celE_3 v] at hw
    exact va_alen hx hb hK hP a 3 hw (ty := .object RX1) rfl Int32.ofInt_eq_ofNat.symm hd q
theorem rfs_set {a j i : Nat} {r : Option Nat} (ha : a < G.2.length) (hj : j < (G.2.getD a []).length) : rfs (srf G a j r) a i = if i = j then r else rfs G a i := by
  unfold rfs srf
  dsimp only
  rw [getD_set (l := G.2) (i := a) (j := a) ha, if_pos rfl, getD_set hj]
theorem uws_0 : ((u_ws RX0 TX0 3).all (fun w => decide (w ∈ lw_tbl) && goodWord w)) = true := by decide +kernel
theorem uws_1 : ((u_ws RX1 TX1 9).all (fun w => decide (w ∈ lw_tbl) && goodWord w)) = true := by decide +kernel
theorem uws_2 : ((u_ws RX2 TX2 13).all (fun w => decide (w ∈ lw_tbl) && goodWord w)) = true := by decide +kernel
theorem uws_3 : ((u_ws RX3 TX3 20).all (fun w => decide (w ∈ lw_tbl) && goodWord w)) = true := by decide +kernel
theorem all_AWS {l : List Cond} (h : (l.all (fun w => decide (w ∈ lw_tbl) && goodWord w)) = true) : ∀ w ∈ l, w ∈ AWS := by
  intro w hw
  have := List.all_eq_true.mp h w hw
  rw [Bool.and_eq_true, decide_eq_true_eq] at this
  exact List.mem_filter.mpr this
theorem lt4 {P : Nat → Prop} (h0 : P 0) (h1 : P 1) (h2 : P 2) (h3 : P 3) {i : Nat} (hi : i < 4) : P i := by
  match i, hi with
  | 0, _ => exact h0
  | 1, _ => exact h1
  | 2, _ => exact h2
  | 3, _ => exact h3
theorem uws_all {ci : Nat} (hc : ci < 4) : ∀ w ∈ u_ws (cR ci) (cT ci) (fN ci), w ∈ AWS := lt4 (P := fun ci => ∀ w ∈ u_ws (cR ci) (cT ci) (fN ci), w ∈ AWS) (all_AWS uws_0) (all_AWS uws_1) (all_AWS uws_2) (all_AWS uws_3) hc
theorem cl_all {ci : Nat} (hc : ci < 4) : vwCl[ci]? = some (cR ci, cT ci, fN ci) := lt4 (P := fun ci => vwCl[ci]? = some (cR ci, cT ci, fN ci)) rfl rfl rfl rfl hc
theorem ty_all {ci : Nat} (hc : ci < 4) : ∀ k, k < fN ci → parseFieldDescriptor (cT ci k).2.2.1 = some (cTy ci k) := lt4 (P := fun ci => ∀ k, k < fN ci → parseFieldDescriptor (cT ci k).2.2.1 = some (cTy ci k)) tyX0_ok tyX1_ok tyX2_ok tyX3_ok hc
theorem nm_all {ci : Nat} (hc : ci < 4) : ∀ a, a < fN ci → ∀ b, b < fN ci → a ≠ b → (cT ci a).2.1 ≠ (cT ci b).2.1 := lt4 (P := fun ci => ∀ a, a < fN ci → ∀ b, b < fN ci → a ≠ b → (cT ci a).2.1 ≠ (cT ci b).2.1) nmX0 nmX1 nmX2 nmX3 hc
def isRT (t : FieldType) : Bool := match t with
  | .object _ => true
  | .array _ => true
  | _ => false
theorem fty_ok : ∀ ci, ci < 4 → ∀ k, k < fN ci → (fty ci k = 0 → cTy ci k = .int) ∧ (fty ci k = 1 → cTy ci k = .long) ∧ (fty ci k = 3 → cTy ci k = .boolean) ∧ (fty ci k = 2 → isRT (cTy ci k) = true) ∧ fty ci k ≤ 3 := by decide +kernel
theorem rt_ok {t : FieldType} (ht : isRT t = true) (a : Nat) : narrow t (.ref a) = .ref a ∧ fits t (.ref a) = true := by
  cases t <;> first | (cases ht; done) | exact ⟨rfl, rfl⟩
theorem fvl_0 {c a j : Nat} (e : fty c j = 0 ∨ fty c j = 3) : fvl ba G h c a j = .int (Int32.ofInt (h a j)) := by unfold fvl; rcases e with e | e <;> rw [e] <;> rfl
theorem fvl_1 {c a j : Nat} (e : fty c j = 1) : fvl ba G h c a j = .long (Int64.ofInt (h a j)) := by unfold fvl; rw [e]; rfl
theorem fvl_2 {c a j : Nat} (e : fty c j = 2) : fvl ba G h c a j = va_rf ((rfs G a j).map (adr ba)) := by unfold fvl; rw [e]; rfl
theorem fld_get {ci k0 a : Nat} (hk : k0 < fN ci) : ((List.range (fN ci)).map (fun j => fvl ba G h ci a j))[k0]? = some (fvl ba G h ci a k0) := by simp [hk]
theorem s_getf {ci k0 o i : Nat} (C : CT k p s m args meth c D cs ba n0) (hd : decode (P_b k) pc = .ok (.getfield i, 3)) (hc : ci < 4) (hk : k0 < fN ci) (ho : (shp G o).1 = 4 + ci) (hw : Cond.fieldLink (P_o k) i (cT ci k0).1 (cT ci k0).2.1 (cT ci k0).2.2.1 ∈ AWS) {v : AV} (hv : cv ba v = fvl ba G h ci o k0) (kk : GO p l e R s m args below meth c D cs ba n0 z0 Q (pc + 3) ls (v :: st) G h) : GO p l e R s m args below meth c D cs ba n0 z0 Q pc ls (.inr (.inr (some o)) :: st) G h := by
  obtain ⟨hx, hb, hr, hml, hown, hts, hlk, hnm, hN, hK, hs0⟩ := C
  intro arr H locs hL hP hS hF hgg hn hz
  have hg := hgg.1
  have ha := shp_lt ho (by omega)
  have hws := wsO_get (cs := cs) (ba := ba) (h := h) ha
  rw [celE_o ho] at hws
  refine va_get (ci := ci) (v := fvl ba G h ci o k0) hx hb hts (uws_all hc) hown hK hP o hws (cl_all hc) k0 hk (hts _ hw) (fun _ h9 => h9) (fld_get hk) hd ?_
  rw [← hv]
  exact kk arr H locs hL hP hS hF hgg hn hz
/-- a field is set: the world behind it -/
theorem fld_set {ci k0 o : Nat} {G' : AG} {h' : AH} {v : Value} {H1 : Heap} (hk : k0 < fN ci) (ho : (shp G o).1 = 4 + ci) (ho' : (shp G' o).1 = 4 + ci) (hg : gN G' = gN G) (hv : fvl ba G' h' ci o k0 = v) (hj : ∀ j, j ≠ k0 → fvl ba G' h' ci o j = fvl ba G h ci o j) (hb : ∀ b, b ≠ o → celE cs ba G' h' b = celE cs ba G h b)
    (hP1 : va_P D vwCl ((wsO cs ba G h).set o (adr ba o, .inr (ci, ((List.range (fN ci)).map (fun j => fvl ba G h ci o j)).set k0 v))) H1) : va_P D vwCl (wsO cs ba G' h') H1 := by
  have e0 : ((Sum.inr (ci, ((List.range (fN ci)).map (fun j => fvl ba G h ci o j)).set k0 v)) : va_E) = celE cs ba G' h' o := by
    rw [celE_o ho']
    congr 2
    apply List.ext_getElem?
    intro j
    rw [List.getElem?_set]
    by_cases e : k0 = j
    · subst e
      rw [if_pos rfl, if_pos (by simpa using hk), fld_get hk, hv]
    · rw [if_neg e]
      by_cases hl : j < fN ci
      · rw [fld_get hl, fld_get hl, hj j (fun q => e q.symm)]
      · rw [List.getElem?_eq_none (by simp; omega), List.getElem?_eq_none (by simp; omega)]
  rw [e0, wsO_set hg hb] at hP1
  exact hP1
theorem s_putf {ci k0 o i : Nat} {G' : AG} {h' : AH} {v : AV} (C : CT k p s m args meth c D cs ba n0) (hd : decode (P_b k) pc = .ok (.putfield i, 3)) (hc : ci < 4) (hk : k0 < fN ci) (ho : (shp G o).1 = 4 + ci) (ho' : (shp G' o).1 = 4 + ci) (hw : Cond.fieldLink (P_o k) i (cT ci k0).1 (cT ci k0).2.1 (cT ci k0).2.2.1 ∈ AWS) (hfin : (cT ci k0).2.2.2 = false ∨ ((P_y k).name = "<init>" ∧ (cT ci k0).1 = P_o k)) (hgG : gN G' = gN G) (hgZ : gZ G' = gZ G) (hoo : okG G → okG G') (hnar : narrow (cTy ci k0) (cv ba v) = cv ba v) (hfit : fits (cTy ci k0) (cv ba v) = true) (hv : fvl ba G' h' ci o k0 = cv ba v) (hj : ∀ j, j ≠ k0 → fvl ba G' h' ci o j = fvl ba G h ci o j) (hbb : ∀ b, b ≠ o → celE cs ba G' h' b = celE cs ba G h b) (hh : ∀ a, 1000 ≤ a → h' a = h a) (kk : GO p l e R s m args below meth c D cs ba n0 z0 Q (pc + 3) ls st G' h') : GO p l e R s m args below meth c D cs ba n0 z0 Q pc ls (v :: .inr (.inr (some o)) :: st) G h := by
  obtain ⟨hx, hb, hr, hml, hown, hts, hlk, hnm, hN, hK, hs0⟩ := C
  intro arr H locs hL hP hS hF hgg hn hz
  have hg := hgg.1
  have ha := shp_lt ho (by omega)
  have hws := wsO_get (cs := cs) (ba := ba) (h := h) ha
  rw [celE_o ho] at hws
  have hlen : k0 < ((List.range (fN ci)).map (fun j => fvl ba G h ci o j)).length := by simpa using hk
  have fin : ∀ (H1 : Heap) (locs1 : List Loc), va_P D vwCl ((wsO cs ba G h).set o (adr ba o, .inr (ci, ((List.range (fN ci)).map (fun j => fvl ba G h ci o j)).set k0 (cv ba v)))) H1 → va_S (AA ba) s.heap H1 locs1 → W p l e R s m args below meth c H1 locs1 (gN G - n0) (gZ G - z0) Q (F0 m (pc + 3) arr (st.map (cv ba))) := by
    intro H1 locs1 hP1 hS1
    have hok := hoo hgg
    have q := kk arr H1 locs1 hL (fld_set hk ho ho' hgG hv hj hbb hP1) hS1 (FZ_h hh hF) hok (by omega) (by omega)
    rw [hgG, hgZ] at q
    exact q
  cases hf : (cT ci k0).2.2.2 with
  | false => exact va_put (ci := ci) (v := cv ba v) (ty := cTy ci k0) hx hb hts (uws_all hc) (cTy ci) (ty_all hc) (nm_all hc) hown hK hP (wsO_D hg) hS o hws (cl_all hc) k0 hk (hts _ hw) (fun _ h9 => h9) hf (ty_all hc k0 hk) hnar hfit hlen hd (fun H1 locs1 hP1 _ hS1 => fin H1 locs1 hP1 hS1)
  | true =>
    rw [hf] at hfin
    obtain ⟨f1, f2⟩ := hfin.resolve_left (by decide)
    exact va_putF (ci := ci) (v := cv ba v) (ty := cTy ci k0) hx hb hts (uws_all hc) (cTy ci) (ty_all hc) (nm_all hc) hown hK hP (wsO_D hg) hS o hws (cl_all hc) k0 hk (hts _ hw) (fun _ h9 => h9) hf (hnm f1) f2 (ty_all hc k0 hk) hnar hfit hlen hd (fun H1 locs1 hP1 _ hS1 => fin H1 locs1 hP1 hS1)
end
