/-! 19: calls, and the whole: what the reading says, the machine does -/
section
variable {p : Program} {l : Launch} {e : Env} {R : Room} {s : State} {m : MethodId} {args : Array Value} {below : List Frame} {meth : Method} {c : Code} {D : va_G} {cs : CS} {ba : BA} {n0 z0 : Nat} {Q : State → Prop} {k pc : Nat} {ls : LC} {st : List AV} {G : AG} {h : AH}

/-- a method starts with these arguments in this world -/
def PCt (D : va_G) (cs : CS) (ba : BA) (as : List AV) (G : AG) (h : AH) : Array Value → State → Prop := va_Pc (as.map (cv ba)) (fun U => U.heap.size = ba.1 + gN G ∧ va_P D vwCl (wsO cs ba G h) U.heap ∧ va_K D vwCl (tyS cs) U ∧ NS U ∧ FZ ba h U U.heap)
/-- it ends with this answer in that world -/
def QCt (D : va_G) (cs : CS) (ba : BA) (r : Option AV) (G : AG) (h : AH) : Array Value → State → Outcome → State → Prop := fun _ st oc t => oc = .returned (r.map (cv ba)) ∧ va_P D vwCl (wsO cs ba G h) t.heap ∧ va_F (AA ba) st t
def wsM (j : Nat) : List Cond := Cond.code (P_y j) (P_b j) (P_l j) (P_r j) :: AWS
def rmM (d mc ms : Nat) : Room := { frames := d, cells := mc, slots := ms, locals := 40 * d }
/-- the contract of a method at these arguments in this world -/
def CO (l : Launch) (D : va_G) (cs : CS) (ba : BA) (d j : Nat) (as : List AV) (G : AG) (h : AH) (r : Option AV) (G' : AG) (h' : AH) : Prop := Met l (P_y j) (wsM j) (rmM d (gN G' - gN G) (gZ G' - gZ G)) (PCt D cs ba as G h) (QCt D cs ba r G' h') (gN G' - gN G) (gZ G' - gZ G) (AA ba)
theorem PCt_blind {as : List AV} : FrameBlind (PCt D cs ba as G h) := by
  intro a U g mk' q
  obtain ⟨q0, q1, q2, q3, q4, q5⟩ := q
  refine ⟨q0, q1, q2, va_K.moved (u := U) (U := U.calling g mk' a) (Vm.Alike.refl U.vm) q3, ⟨fun w hw => ?_, va_AO.moved (u := U) (Vm.Alike.refl U.vm) q4.2.1, va_AO.moved (u := U) (Vm.Alike.refl U.vm) q4.2.2⟩, FZ_at (s := U) (Vm.Alike.refl U.vm) (fun _ _ _ => rfl) q5⟩
  have h1 := q4.1 w hw
  simp only [nst, List.mem_cons, List.not_mem_nil, or_false] at hw
  rcases hw with rfl | rfl | rfl | rfl | rfl <;> exact va_Nw.same rfl (u := U) rfl h1
theorem good_ws {j : Nat} (hc : Cond.code (P_y j) (P_b j) (P_l j) (P_r j) ∈ AWS) : GoodIn AWS (wsM j) := by
  intro w hw
  have h1 : w ∈ AWS := by
    rcases List.mem_cons.mp hw with rfl | h
    · exact hc
    · exact h
  exact ⟨h1, AWS_good h1⟩
theorem callK {H : Heap} {locs : List Loc} {cells slots mc ms : Nat} {arr : Array Slot} {st0 rest : List Value} {Qa : State → Outcome → State → Prop} {free : Addr → Prop} (hr : va_Run p l e R s m args below meth c H locs cells slots mc ms (F0 m pc arr st0) rest Qa free)
    (kk : ∀ (v : Option Value) (st₀ t : State) (L : List Loc), st₀.heap = H → Qa st₀ (.returned v) t → (∀ q ∈ L, free q.base) → W p l e R s m args below meth c t.heap (locs ++ L) (cells + mc) (slots + ms) Q (F0 m (pc + 3) arr (v.toList ++ rest))) : W p l e R s m args below meth c H locs cells slots Q (F0 m pc arr st0) := by
  intro T hT X
  obtain ⟨v, st₀, t, T', L, h0, X', hL, e1, e2, hq, st⟩ := hr T hT X
  obtain ⟨t2, a1, b1⟩ := kk v st₀ t L h0 hq hL T' e1 X'
  exact ⟨t2, st t2 a1, b1⟩
theorem toList_push {r : Option AV} : (r.map (cv ba)).toList ++ st.map (cv ba) = (pushR r st).map (cv ba) := by cases r <;> rfl
/-- behind a call -/
theorem call_go {d j : Nat} {as : List AV} {r : Option AV} {G2 : AG} {h2 : AH} {arr : Array Slot} {H : Heap} {locs : List Loc} {st0 : List Value} {av : Array Value} (hL : LV ba arr ls) (hS : va_S (AA ba) s.heap H locs) (hF : FZ ba h s s.heap) (hgg : okG G) (hn : n0 ≤ gN G) (hz : z0 ≤ gZ G) (hGM : GM G G2) (hh2 : ∀ a, 1000 ≤ a → h2 a = h a)
    (hr : va_Run p l e R s m args below meth c H locs (gN G - n0) (gZ G - z0) (gN G2 - gN G) (gZ G2 - gZ G) (F0 m pc arr st0) (st.map (cv ba)) (QCt D cs ba r G2 h2 av) (AA ba)) (kk : GO p l e R s m args below meth c D cs ba n0 z0 Q (pc + 3) ls (pushR r st) G2 h2) : W p l e R s m args below meth c H locs (gN G - n0) (gZ G - z0) Q (F0 m pc arr st0) := by
  refine callK hr (fun v st₀ t L h0 hq hL2 => ?_)
  obtain ⟨q1, q2, q3, q4⟩ := hq
  rw [h0] at q3 q4
  have hv : v = r.map (cv ba) := by injection q1
  subst hv
  rw [toList_push]
  have g1 := hGM.1
  have g2 := hGM.2.1
  have q := kk arr t.heap (locs ++ L) hL q2 ⟨Nat.le_trans hS.1 q3, fun q u1 u2 => (q4 q (Nat.lt_of_lt_of_le u1 hS.1) u2).trans (hS.2.1 q u1 u2), fun q hq => by
    rcases List.mem_append.mp hq with z | z
    · exact hS.2.2 q z
    · exact hL2 q z⟩ (FZ_h hh2 hF) (hGM.2.2 hgg) (by omega) (by omega)
  rw [show gN G - n0 + (gN G2 - gN G) = gN G2 - n0 by omega, show gZ G - z0 + (gZ G2 - gZ G) = gZ G2 - z0 by omega]
  exact q
theorem s_invS {d j b i : Nat} {as : List AV} {r : Option AV} {G2 : AG} {h2 : AH} (C : CT k p s m args meth c D cs ba n0) (hd : decode (P_b k) pc = .ok (.invokestatic i, 3)) (hll : ls.length = P_l k) (ho : okC j b = true) (hM : CO l D cs ba d j as G h r G2 h2) (hGM : GM G G2) (hh2 : ∀ a, 1000 ≤ a → h2 a = h a) (hRd : d + 1 ≤ R.frames ∧ 40 * d + 40 ≤ R.locals) (hb3 : (st.map vcat).sum ≤ 8 ∧ gN G2 - n0 ≤ R.cells ∧ gZ G2 - z0 ≤ R.slots) (hln : as.length = b) (w1 : Cond.static (P_y j) ∈ AWS) (w2 : Cond.methodLinkNest (P_o k) i (P_y j) RX2 ∈ nst ∨ Cond.methodLink (P_o k) i (P_y j) ∈ AWS) (kk : GO p l e R s m args below meth c D cs ba n0 z0 Q (pc + 3) ls (pushR r st) G2 h2) : GO p l e R s m args below meth c D cs ba n0 z0 Q pc ls (as.reverse ++ st) G h := by
  obtain ⟨hx, hb, hr, hml, hown, hts, hlk, hnm, hN, hK, hs0⟩ := C
  intro arr H locs hL hP hS hF hgg hn hz
  have hg := hgg.1
  obtain ⟨k1, k2, k3⟩ := hb3
  have hW8 : 2 * (F0 m pc arr (st.map (cv ba))).monitorRoom + ((st.map (cv ba)).map fun v => v.category).sum ≤ 8 := by
    show 2 * 0 + _ ≤ 8
    rw [cv_sum]
    omega
  refine W_bd (fun hbd => ?_)
  have hsz : H.size = ba.1 + gN G := by
    have hlow : ba.1 + gN G ≤ H.size := by
      rcases Nat.eq_zero_or_pos (gN G) with z | z
      · have := hS.1
        omega
      · have := (hP _ _ (wsO_get (cs := cs) (ba := ba) (h := h) (show gN G - 1 < gN G by omega))).lt
        rw [show ((adr ba (gN G - 1), celE cs ba G h (gN G - 1)) : Nat × va_E).1 = adr ba (gN G - 1) from rfl, adr_lo (by omega)] at this
        omega
    omega
  have hPs : PreS s H (PCt D cs ba as G h) (as.map (cv ba)) := ⟨PCt_blind, fun U hU hWm => ⟨rfl, by rw [hU]; exact hsz, by rw [hU]; exact hP, va_K.moved hWm.alike hK, ⟨nst_warm hWm hN.1, va_AO.moved hWm.alike hN.2.1, va_AO.moved hWm.alike hN.2.2⟩, FZ_at hWm.alike (fun a u1 u2 => by rw [hU]; exact hS.2.1 a u1 u2) hF⟩⟩
  simp only [okC, Bool.and_eq_true, decide_eq_true_eq] at ho
  obtain ⟨⟨⟨o1, o2⟩, o3⟩, o4⟩ := ho
  have hsize : arr.size = P_l k := hL.1.trans hll
  have hR : (rmM d (gN G2 - gN G) (gZ G2 - gZ G)).frames + 1 ≤ R.frames ∧ 8 + (P_l j + 11) + (rmM d (gN G2 - gN G) (gZ G2 - gZ G)).locals ≤ R.locals := ⟨hRd.1, by show 8 + (P_l j + 11) + 40 * d ≤ R.locals; omega⟩
  have hf : gN G - n0 + (gN G2 - gN G) ≤ R.cells ∧ gZ G - z0 + (gZ G2 - gZ G) ≤ R.slots := by
    have g1 := hGM.1
    have g2 := hGM.2.1
    omega
  rcases w2 with w2 | w2
  · exact call_go (d := d) (j := j) (as := as) hL hS hF hgg hn hz hGM hh2 (va_runSN (As := as.map (cv ba)) ⟨hx, hb, hml, hown, hts⟩ hM ⟨va_cnB b hts (good_ws (inW_AWS o1)) rfl rfl rfl (hN.1 _ w2) (hts _ (inW_AWS o2)) o3 hR, hts _ w1, trivial⟩ hPs rfl (by rw [List.length_map]; exact hln) hsize (by rw [List.map_append, List.map_reverse]) hW8 hd hf) kk
  · exact call_go (d := d) (j := j) (as := as) hL hS hF hgg hn hz hGM hh2 (va_runS (As := as.map (cv ba)) ⟨hx, hb, hml, hown, hts⟩ hM ⟨callB_of b hts (good_ws (inW_AWS o1)) rfl rfl rfl (hts _ (inW_AWS o2)) (hts _ w2) o3 hR, hts _ w1⟩ hPs rfl (by rw [List.length_map]; exact hln) hsize (by rw [List.map_append, List.map_reverse]) hW8 hd hf) kk
theorem s_invI {d j b i : Nat} {o0 : Nat} {as0 as : List AV} {r : Option AV} {G2 : AG} {h2 : AH} (C : CT k p s m args meth c D cs ba n0) (hd : decode (P_b k) pc = .ok (.invokespecial i, 3)) (hll : ls.length = P_l k) (ho : okC j b = true) (hM : CO l D cs ba d j as G h r G2 h2) (hGM : GM G G2) (hh2 : ∀ a, 1000 ≤ a → h2 a = h a) (hRd : d + 1 ≤ R.frames ∧ 40 * d + 40 ≤ R.locals) (hb3 : (st.map vcat).sum ≤ 8 ∧ gN G2 - n0 ≤ R.cells ∧ gZ G2 - z0 ≤ R.slots) (has : as = .inr (.inr (some o0)) :: as0) (hln : as0.length = b) (w1 : Cond.instanceMethod (P_y j) ∈ AWS) (w3 : (P_y j).name = "<init>" ∧ P_r j = none) (w2 : Cond.methodLinkNest (P_o k) i (P_y j) RX2 ∈ nst ∨ Cond.methodLink (P_o k) i (P_y j) ∈ AWS) (kk : GO p l e R s m args below meth c D cs ba n0 z0 Q (pc + 3) ls (pushR r st) G2 h2) : GO p l e R s m args below meth c D cs ba n0 z0 Q pc ls (as.reverse ++ st) G h := by
  subst has
  obtain ⟨hx, hb, hr, hml, hown, hts, hlk, hnm, hN, hK, hs0⟩ := C
  intro arr H locs hL hP hS hF hgg hn hz
  have hg := hgg.1
  obtain ⟨k1, k2, k3⟩ := hb3
  have hW8 : 2 * (F0 m pc arr (st.map (cv ba))).monitorRoom + ((st.map (cv ba)).map fun v => v.category).sum ≤ 8 := by
    show 2 * 0 + _ ≤ 8
    rw [cv_sum]
    omega
  refine W_bd (fun hbd => ?_)
  have hsz : H.size = ba.1 + gN G := by
    have hlow : ba.1 + gN G ≤ H.size := by
      rcases Nat.eq_zero_or_pos (gN G) with z | z
      · have := hS.1
        omega
      · have := (hP _ _ (wsO_get (cs := cs) (ba := ba) (h := h) (show gN G - 1 < gN G by omega))).lt
        rw [show ((adr ba (gN G - 1), celE cs ba G h (gN G - 1)) : Nat × va_E).1 = adr ba (gN G - 1) from rfl, adr_lo (by omega)] at this
        omega
    omega
  have hPs : PreS s H (PCt D cs ba (.inr (.inr (some o0)) :: as0) G h) (.ref (adr ba o0) :: as0.map (cv ba)) := ⟨PCt_blind, fun U hU hWm => ⟨rfl, by rw [hU]; exact hsz, by rw [hU]; exact hP, va_K.moved hWm.alike hK, ⟨nst_warm hWm hN.1, va_AO.moved hWm.alike hN.2.1, va_AO.moved hWm.alike hN.2.2⟩, FZ_at hWm.alike (fun a u1 u2 => by rw [hU]; exact hS.2.1 a u1 u2) hF⟩⟩
  simp only [okC, Bool.and_eq_true, decide_eq_true_eq] at ho
  obtain ⟨⟨⟨o1, o2⟩, o3⟩, o4⟩ := ho
  have hsize : arr.size = P_l k := hL.1.trans hll
  have hR : (rmM d (gN G2 - gN G) (gZ G2 - gZ G)).frames + 1 ≤ R.frames ∧ 8 + (P_l j + 11) + (rmM d (gN G2 - gN G) (gZ G2 - gZ G)).locals ≤ R.locals := ⟨hRd.1, by show 8 + (P_l j + 11) + 40 * d ≤ R.locals; omega⟩
  have hf : gN G - n0 + (gN G2 - gN G) ≤ R.cells ∧ gZ G - z0 + (gZ G2 - gZ G) ≤ R.slots := by
    have g1 := hGM.1
    have g2 := hGM.2.1
    omega
  have hwn : wsM j = Cond.code (P_y j) (P_b j) (P_l j) none :: AWS := by unfold wsM; rw [w3.2]
  have hstk : (F0 m pc arr (((Sum.inr (Sum.inr (some o0)) :: as0 : List AV).reverse ++ st).map (cv ba))).stack = (as0.map (cv ba)).reverse ++ .ref (adr ba o0) :: st.map (cv ba) := by
    show ((Sum.inr (Sum.inr (some o0)) :: as0 : List AV).reverse ++ st).map (cv ba) = _
    rw [List.reverse_cons, List.append_assoc, List.map_append, List.map_reverse]
    rfl
  rcases w2 with w2 | w2
  · exact call_go (d := d) (j := j) (as := .inr (.inr (some o0)) :: as0) hL hS hF hgg hn hz hGM hh2 (va_runIN (As := as0.map (cv ba)) ⟨hx, hb, hml, hown, hts⟩ hM ⟨va_cnB b hts (good_ws (inW_AWS o1)) hwn rfl rfl (hN.1 _ w2) (hts _ (inW_AWS o2)) o3 hR, w3.1, hts _ w1⟩ hPs rfl (by rw [List.length_map]; exact hln) hsize hstk hW8 hd hf) kk
  · exact call_go (d := d) (j := j) (as := .inr (.inr (some o0)) :: as0) hL hS hF hgg hn hz hGM hh2 (va_runI (As := as0.map (cv ba)) ⟨hx, hb, hml, hown, hts⟩ hM ⟨callB_of b hts (good_ws (inW_AWS o1)) hwn rfl rfl (hts _ (inW_AWS o2)) (hts _ w2) o3 hR, w3.1, hts _ w1⟩ hPs rfl (by rw [List.length_map]; exact hln) hsize hstk hW8 hd hf) kk
theorem s_invV {d j b i : Nat} {o0 ci : Nat} {as0 as : List AV} {r : Option AV} {G2 : AG} {h2 : AH} (C : CT k p s m args meth c D cs ba n0) (hd : decode (P_b k) pc = .ok (.invokevirtual i, 3)) (hll : ls.length = P_l k) (ho : okC j b = true) (hM : CO l D cs ba d j as G h r G2 h2) (hGM : GM G G2) (hh2 : ∀ a, 1000 ≤ a → h2 a = h a) (hRd : d + 1 ≤ R.frames ∧ 40 * d + 40 ≤ R.locals) (hb3 : (st.map vcat).sum ≤ 8 ∧ gN G2 - n0 ≤ R.cells ∧ gZ G2 - z0 ≤ R.slots) (has : as = .inr (.inr (some o0)) :: as0) (hln : as0.length = b) (hc4 : ci < 4) (ho0 : (shp G o0).1 = 4 + ci) (hcl : (P_y j).cls = cR ci) (w1 : Cond.instanceMethod (P_y j) ∈ AWS) (w3 : Cond.selects (P_y j).cls (P_y j) (P_y j) ∈ AWS) (w2 : Cond.methodLink (P_o k) i (P_y j) ∈ AWS) (kk : GO p l e R s m args below meth c D cs ba n0 z0 Q (pc + 3) ls (pushR r st) G2 h2) : GO p l e R s m args below meth c D cs ba n0 z0 Q pc ls (as.reverse ++ st) G h := by
  subst has
  obtain ⟨hx, hb, hr, hml, hown, hts, hlk, hnm, hN, hK, hs0⟩ := C
  intro arr H locs hL hP hS hF hgg hn hz
  have hg := hgg.1
  obtain ⟨k1, k2, k3⟩ := hb3
  have hW8 : 2 * (F0 m pc arr (st.map (cv ba))).monitorRoom + ((st.map (cv ba)).map fun v => v.category).sum ≤ 8 := by
    show 2 * 0 + _ ≤ 8
    rw [cv_sum]
    omega
  refine W_bd (fun hbd => ?_)
  have hsz : H.size = ba.1 + gN G := by
    have hlow : ba.1 + gN G ≤ H.size := by
      rcases Nat.eq_zero_or_pos (gN G) with z | z
      · have := hS.1
        omega
      · have := (hP _ _ (wsO_get (cs := cs) (ba := ba) (h := h) (show gN G - 1 < gN G by omega))).lt
        rw [show ((adr ba (gN G - 1), celE cs ba G h (gN G - 1)) : Nat × va_E).1 = adr ba (gN G - 1) from rfl, adr_lo (by omega)] at this
        omega
    omega
  have hPs : PreS s H (PCt D cs ba (.inr (.inr (some o0)) :: as0) G h) (.ref (adr ba o0) :: as0.map (cv ba)) := ⟨PCt_blind, fun U hU hWm => ⟨rfl, by rw [hU]; exact hsz, by rw [hU]; exact hP, va_K.moved hWm.alike hK, ⟨nst_warm hWm hN.1, va_AO.moved hWm.alike hN.2.1, va_AO.moved hWm.alike hN.2.2⟩, FZ_at hWm.alike (fun a u1 u2 => by rw [hU]; exact hS.2.1 a u1 u2) hF⟩⟩
  simp only [okC, Bool.and_eq_true, decide_eq_true_eq] at ho
  obtain ⟨⟨⟨o1, o2⟩, o3⟩, o4⟩ := ho
  have hsize : arr.size = P_l k := hL.1.trans hll
  have hR : (rmM d (gN G2 - gN G) (gZ G2 - gZ G)).frames + 1 ≤ R.frames ∧ 8 + (P_l j + 11) + (rmM d (gN G2 - gN G) (gZ G2 - gZ G)).locals ≤ R.locals := ⟨hRd.1, by show 8 + (P_l j + 11) + 40 * d ≤ R.locals; omega⟩
  have hf : gN G - n0 + (gN G2 - gN G) ≤ R.cells ∧ gZ G - z0 + (gZ G2 - gZ G) ≤ R.slots := by
    have g1 := hGM.1
    have g2 := hGM.2.1
    omega
  have hstk : (F0 m pc arr (((Sum.inr (Sum.inr (some o0)) :: as0 : List AV).reverse ++ st).map (cv ba))).stack = (as0.map (cv ba)).reverse ++ .ref (adr ba o0) :: st.map (cv ba) := by
    show ((Sum.inr (Sum.inr (some o0)) :: as0 : List AV).reverse ++ st).map (cv ba) = _
    rw [List.reverse_cons, List.append_assoc, List.map_append, List.map_reverse]
    rfl
  have hws := wsO_get (cs := cs) (ba := ba) (h := h) (shp_lt ho0 (by omega))
  rw [celE_o ho0] at hws
  have hrc := va_recv hK hP (cl_all hc4) hws
  exact call_go (d := d) (j := j) (as := .inr (.inr (some o0)) :: as0) hL hS hF hgg hn hz hGM hh2 (va_runV (C := (P_y j).cls) (b := adr ba o0) (As := as0.map (cv ba)) ⟨hx, hb, hml, hown, hts⟩ hM ⟨callB_of b hts (good_ws (inW_AWS o1)) rfl rfl rfl (hts _ (inW_AWS o2)) (hts _ w2) o3 hR, hts _ w1, hts _ w3⟩ ⟨hPs.1, by rw [hcl]; exact hrc, hPs.2⟩ rfl (by rw [List.length_map]; exact hln) hsize hstk hW8 hd hf) kk
end
