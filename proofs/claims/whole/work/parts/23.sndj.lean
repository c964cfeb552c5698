/-! 23: the claim's walk out of a run of the reading -/
def rgT (j : Nat) : Int := ([0, 1, 2, 3, 4, 5, 6, 7, 0, 8, 9, 10, 4, 11, 12, 13] : List Int).getD j 0
/-- the reading's numbers at the start -/
def h00 (L : Nat) (xs : Nat → Int32) : AH := fun a j => if a = 1000 then rgT j else if a = 1001 then (xs j).toInt else if a = 1002 then (L : Int) else 0
theorem inst_all : ((List.range 4).all (fun ci => inW (iPos ci) (.instantiable (cR ci) (fN ci)))) = true := by decide +kernel
theorem nst_in : nst.all (fun w => decide (w ∈ lw_tbl) && w.onTables) = true := by decide +kernel
theorem ao_in : (decide (Cond.arrayOver (.object RX0) ∈ lw_tbl) && decide (Cond.arrayOver (.object RX1) ∈ lw_tbl) && decide (Cond.laysStatic RX2 "RING_CELLS" "[I" ∈ lw_tbl) && decide (Cond.initialized RX2 ∈ lw_tbl)) = true := by decide +kernel
theorem fl_arr : Cond.arrayOf (.static "CrossedRings" "RING_CELLS" "[I") .int ∈ flatC (Jvm.Cond.and given_1 narrow_1) := by decide +kernel
theorem fl_len : Cond.eq (.length (.static "CrossedRings" "RING_CELLS" "[I")) (.int 16) ∈ flatC (Jvm.Cond.and given_1 narrow_1) := by decide +kernel
theorem fl_0 : Cond.eq (.elem (.static "CrossedRings" "RING_CELLS" "[I") (.int 0)) (.int 0) ∈ flatC (Jvm.Cond.and given_1 narrow_1) := by decide +kernel
theorem fl_1 : Cond.eq (.elem (.static "CrossedRings" "RING_CELLS" "[I") (.int 1)) (.int 1) ∈ flatC (Jvm.Cond.and given_1 narrow_1) := by decide +kernel
theorem fl_2 : Cond.eq (.elem (.static "CrossedRings" "RING_CELLS" "[I") (.int 2)) (.int 2) ∈ flatC (Jvm.Cond.and given_1 narrow_1) := by decide +kernel
theorem fl_3 : Cond.eq (.elem (.static "CrossedRings" "RING_CELLS" "[I") (.int 3)) (.int 3) ∈ flatC (Jvm.Cond.and given_1 narrow_1) := by decide +kernel
theorem fl_4 : Cond.eq (.elem (.static "CrossedRings" "RING_CELLS" "[I") (.int 4)) (.int 4) ∈ flatC (Jvm.Cond.and given_1 narrow_1) := by decide +kernel
theorem fl_5 : Cond.eq (.elem (.static "CrossedRings" "RING_CELLS" "[I") (.int 5)) (.int 5) ∈ flatC (Jvm.Cond.and given_1 narrow_1) := by decide +kernel
theorem fl_6 : Cond.eq (.elem (.static "CrossedRings" "RING_CELLS" "[I") (.int 6)) (.int 6) ∈ flatC (Jvm.Cond.and given_1 narrow_1) := by decide +kernel
theorem fl_7 : Cond.eq (.elem (.static "CrossedRings" "RING_CELLS" "[I") (.int 7)) (.int 7) ∈ flatC (Jvm.Cond.and given_1 narrow_1) := by decide +kernel
theorem fl_8 : Cond.eq (.elem (.static "CrossedRings" "RING_CELLS" "[I") (.int 8)) (.int 0) ∈ flatC (Jvm.Cond.and given_1 narrow_1) := by decide +kernel
theorem fl_9 : Cond.eq (.elem (.static "CrossedRings" "RING_CELLS" "[I") (.int 9)) (.int 8) ∈ flatC (Jvm.Cond.and given_1 narrow_1) := by decide +kernel
theorem fl_10 : Cond.eq (.elem (.static "CrossedRings" "RING_CELLS" "[I") (.int 10)) (.int 9) ∈ flatC (Jvm.Cond.and given_1 narrow_1) := by decide +kernel
theorem fl_11 : Cond.eq (.elem (.static "CrossedRings" "RING_CELLS" "[I") (.int 11)) (.int 10) ∈ flatC (Jvm.Cond.and given_1 narrow_1) := by decide +kernel
theorem fl_12 : Cond.eq (.elem (.static "CrossedRings" "RING_CELLS" "[I") (.int 12)) (.int 4) ∈ flatC (Jvm.Cond.and given_1 narrow_1) := by decide +kernel
theorem fl_13 : Cond.eq (.elem (.static "CrossedRings" "RING_CELLS" "[I") (.int 13)) (.int 11) ∈ flatC (Jvm.Cond.and given_1 narrow_1) := by decide +kernel
theorem fl_14 : Cond.eq (.elem (.static "CrossedRings" "RING_CELLS" "[I") (.int 14)) (.int 12) ∈ flatC (Jvm.Cond.and given_1 narrow_1) := by decide +kernel
theorem fl_15 : Cond.eq (.elem (.static "CrossedRings" "RING_CELLS" "[I") (.int 15)) (.int 13) ∈ flatC (Jvm.Cond.and given_1 narrow_1) := by decide +kernel
theorem ring_el {args : Array Value} {s : State} (hs : ∀ c ∈ flatC (Jvm.Cond.and given_1 narrow_1), c.before args s = true) : ∀ j : Nat, j < 16 → (Term.elem (.static "CrossedRings" "RING_CELLS" "[I") (.int (Int32.ofNat j))).eval args s none [] s = some (.int (Int32.ofInt (rgT j))) := by
  intro j hj
  match j, hj with
  | 0, _ => exact va_eqt (hs _ fl_0)
  | 1, _ => exact va_eqt (hs _ fl_1)
  | 2, _ => exact va_eqt (hs _ fl_2)
  | 3, _ => exact va_eqt (hs _ fl_3)
  | 4, _ => exact va_eqt (hs _ fl_4)
  | 5, _ => exact va_eqt (hs _ fl_5)
  | 6, _ => exact va_eqt (hs _ fl_6)
  | 7, _ => exact va_eqt (hs _ fl_7)
  | 8, _ => exact va_eqt (hs _ fl_8)
  | 9, _ => exact va_eqt (hs _ fl_9)
  | 10, _ => exact va_eqt (hs _ fl_10)
  | 11, _ => exact va_eqt (hs _ fl_11)
  | 12, _ => exact va_eqt (hs _ fl_12)
  | 13, _ => exact va_eqt (hs _ fl_13)
  | 14, _ => exact va_eqt (hs _ fl_14)
  | 15, _ => exact va_eqt (hs _ fl_15)
  | n + 16, h => exact absurd h (by omega)
set_option maxRecDepth 200000 in
/-- the law, out of a run of the reading -/
theorem law_from (hall : ∀ k, k < 212 → (P_c k).all (okE k) = true) (hjp : ∀ k, k < 212 → ∀ q ∈ P_c k, hasJ q.1 q.2.1) {p : Program} {e : Env} {s : State} {m : MethodId} {below : List Frame} {meth : Method} {c : Code} (l : Launch) {b L : Nat} {xs : Nat → Int32} (C0 : lw_At p s m meth c b L xs)
    (hc : call 40 211 [.inr (.inr (some 1001))] ([], []) (h00 L xs) (fun r G' _ => r = some (.inl 1) ∧ gN G' ≤ 600000 ∧ gZ G' ≤ 7302250)) : W p l e room_1 s m #[Value.ref b] below meth c s.heap [] 0 0 (lw_Z below #[Value.ref b] s) (entryFrame m ([Value.ref b] : List Value).toArray 4) := by
  obtain ⟨hx, hb, hr, hml, hown, hts, hX, hbl, hlocks, hgv⟩ := id C0
  have hsf := flat_of_before _ hgv
  have htA : ∀ w ∈ AWS, w.before #[Value.ref b] s = true := fun w hw => hts w (List.mem_filter.mp hw).1
  have hins : ∀ ci, ci < 4 → (Cond.instantiable (cR ci) (fN ci)).before #[Value.ref b] s = true := fun ci hci => htA _ (inW_AWS (List.all_eq_true.mp inst_all ci (List.mem_range.mpr hci)))
  obtain ⟨c0, i0, k0⟩ := u_known (C := RX0) (T := TX0) (N := 3) (n := 3) htA (uws_all (ci := 0) (by omega)) (hins 0 (by omega))
  obtain ⟨c1, i1, k1⟩ := u_known (C := RX1) (T := TX1) (N := 9) (n := 9) htA (uws_all (ci := 1) (by omega)) (hins 1 (by omega))
  obtain ⟨c2, i2, k2⟩ := u_known (C := RX2) (T := TX2) (N := 13) (n := 13) htA (uws_all (ci := 2) (by omega)) (hins 2 (by omega))
  obtain ⟨c3, i3, k3⟩ := u_known (C := RX3) (T := TX3) (N := 20) (n := 20) htA (uws_all (ci := 3) (by omega)) (hins 3 (by omega))
  have wa := ok_arr
  rw [Bool.and_eq_true] at wa
  have wo := ao_in
  simp only [Bool.and_eq_true, decide_eq_true_eq] at wo
  obtain ⟨⟨⟨wo1, wo2⟩, wo3⟩, wo4⟩ := wo
  obtain ⟨cI, kI, pI, f1, f2, f3⟩ := Cond.arrayClass_spec (htA _ (inW_AWS wa.1))
  obtain ⟨cZ, kZ, pZ, g1, g2, g3⟩ := Cond.arrayClass_spec (htA _ (inW_AWS wa.2))
  obtain ⟨pR, cRr, kR, r1, r2, r3, r4, r5⟩ := Cond.arrayOver_spec (hts _ wo1)
  obtain ⟨pT, cTt, kT, t1, t2, t3, t4, t5⟩ := Cond.arrayOver_spec (hts _ wo2)
  obtain ⟨D, hKc⟩ : ∃ D : va_G, ∀ (k : Nat) (q : vw_C), vwCl[k]? = some q → u_Kn s q.1 q.2.1 q.2.2 (D.1 k) (D.2 k) := by
    refine ⟨(fun k => if k = 0 then c0 else if k = 1 then c1 else if k = 2 then c2 else c3, fun k => if k = 0 then i0 else if k = 1 then i1 else if k = 2 then i2 else i3), ?_⟩
    intro k q hq
    match k, hq with
    | 0, hq => cases hq; exact k0
    | 1, hq => cases hq; exact k1
    | 2, hq => cases hq; exact k2
    | 3, hq => cases hq; exact k3
    | k + 4, hq => simp [vwCl] at hq
  have hK : va_K D vwCl (tyS (cI, cZ, cRr, cTt)) s := by
    refine ⟨hKc, fun k q hq => ?_⟩
    match k, hq with
    | 0, hq => cases hq; exact ⟨fun n z => ⟨fun k h => (by cases h), kI, f2, pI, f3⟩, f1⟩
    | 1, hq => cases hq; exact ⟨fun n z => ⟨fun k h => (by cases h), kZ, g2, pZ, g3⟩, g1⟩
    | 2, hq => cases hq; exact ⟨fun n z => ⟨fun k h => (by cases h), kR, r3, pR, r4⟩, kR, pR, r3, r4, r1, r5⟩
    | 3, hq => cases hq; exact ⟨fun n z => ⟨fun k h => (by cases h), kT, t3, pT, t4⟩, kT, pT, t3, t4, t1, t5⟩
    | k + 4, hq => simp [tyS] at hq
  have hN : NS s := by
    refine ⟨fun w hw => ?_, va_AO.of (hts _ wo1), va_AO.of (hts _ wo2)⟩
    have := List.all_eq_true.mp nst_in w hw
    rw [Bool.and_eq_true, decide_eq_true_eq] at this
    exact va_Nw.of this.2 (hts _ this.1)
  obtain ⟨rg, hrg, hT⟩ := va_Tof (A := fun q => s.heap.size ≤ q) (N := 16) (f := fun j => .int (Int32.ofInt (rgT j))) (by omega) (hsf _ fl_arr) (va_eqt (hsf _ fl_len)) (ring_el hsf) (fun a ha => by omega)
  have hZ := va_Zref (A := fun q => s.heap.size ≤ q) (hts _ wo3) (hts _ wo4) hrg (fun a ha => by omega)
  have hF : FZ (s.heap.size, rg, b, L) (h00 L xs) s s.heap := by
    refine ⟨hZ, hT, ?_, rfl⟩
    obtain ⟨scr, q1, q2, q3, q4, q5⟩ := hX
    refine ⟨scr, q1, q2, q3, by show L ≤ _; omega, by rw [q4], fun j hj => ?_, by show ¬ s.heap.size ≤ b; omega⟩
    rw [q5 j hj]
    show some (Value.int (xs j)) = some (Value.int (Int32.ofInt (xs j).toInt))
    rw [Int32.ofInt_toInt]
  have C : CT 211 p s m #[Value.ref b] meth c D (cI, cZ, cRr, cTt) (s.heap.size, rg, b, L) 0 := ⟨hx, hb, hr, hml, hown, htA, hlocks, fun hq => absurd hq (by decide +kernel), hN, hK, rfl⟩
  obtain ⟨F, r, G', h', e1, rfl, hn6, hz6⟩ := hc
  simp only [runD] at e1
  have hl : (lay [(.inr (.inr (some 1001)) : AV)]).length ≤ P_l 211 := by decide +kernel
  rw [if_pos hl] at e1
  have ok0 : okG ([], []) := ⟨by decide, rfl, fun a ha => by simp [gN] at ha⟩
  have ead : cv (s.heap.size, rg, b, L) (.inr (.inr (some 1001))) = .ref b := rfl
  rw [lg_entry_eq]
  have key := run_snd (R := room_1) (z0 := 0) (Q := lw_Z below #[Value.ref b] s) (l := l) (e := e) (below := below) C (by omega) hall hjp (snd_all hall hjp 39) (by decide) (some (.inl 1)) G' h' (by show gN G' - 0 ≤ 600000; omega) (by show gZ G' - 0 ≤ 7302250; omega) (fun pc ls st e2 => ?_) F 0 (ini 211 [.inr (.inr (some 1001))]) [] ([], []) (h00 L xs) e1 ok0 (ini_len hl)
  · have q := key _ s.heap [] (ini_LV hl) (fun k q hq => by simp [wsO, gN] at hq) va_S.rf hF ok0 (Nat.le_refl _) (Nat.le_refl _)
    exact q
  · intro arr H locs hL hP hS hF2 hgg hn hz
    rcases ret_inv (by omega) hall e2 with ⟨x0, rfl, h3, hd, -⟩ | ⟨x0, -, h3, -, -⟩ | ⟨-, h3, -, -⟩
    · cases h3
      refine W.widen (k := 600000) (n := 7302250) (by omega) (by omega) (va_forget (fun q hq => hS.2.2 q hq) ?_)
      exact lw_ret hx hb hr hlocks hd
    · cases h3
    · cases h3
