/-! 13: the machine follows the reading: what a state of the reading is on the machine, and one row an instruction -/
abbrev BA : Type := Nat × Nat × Nat × Nat
abbrev CS : Type := ClassId × ClassId × ClassId × ClassId
def adr (ba : BA) (a : Nat) : Nat := if a = 1000 then ba.2.1 else if a = 1001 then ba.2.2.1 else ba.1 + a
theorem adr_lo {ba : BA} {a : Nat} (h : a < 1000) : adr ba a = ba.1 + a := by
  unfold adr
  rw [if_neg (by omega), if_neg (by omega)]
def cv (ba : BA) (v : AV) : Value := match v with
  | .inl x => .int (Int32.ofInt x)
  | .inr (.inl x) => .long (Int64.ofInt x)
  | .inr (.inr none) => .null
  | .inr (.inr (some a)) => .ref (adr ba a)
theorem cv_i (ba : BA) (x : Int) : cv ba (.inl x) = .int (Int32.ofInt x) := rfl
theorem cv_l (ba : BA) (x : Int) : cv ba (.inr (.inl x)) = .long (Int64.ofInt x) := rfl
theorem cv_a (ba : BA) (a : Nat) : cv ba (.inr (.inr (some a))) = .ref (adr ba a) := rfl
theorem cv_r (ba : BA) (r : Option Nat) : cv ba (.inr (.inr r)) = va_rf (r.map (adr ba)) := by cases r <;> rfl
theorem cv_cat (ba : BA) (v : AV) : (cv ba v).category = vcat v := by
  rcases v with x | x | (_ | a) <;> rfl
theorem cv_sum (ba : BA) (st : List AV) : ((st.map (cv ba)).map (fun v => v.category)).sum = (st.map vcat).sum := by
  rw [List.map_map]
  congr 1
  apply List.map_congr_left
  intro v _
  exact cv_cat ba v
def fvl (ba : BA) (G : AG) (h : AH) (c a j : Nat) : Value := match fty c j with
  | 1 => .long (Int64.ofInt (h a j))
  | 2 => va_rf ((rfs G a j).map (adr ba))
  | _ => .int (Int32.ofInt (h a j))
def celE (cs : CS) (ba : BA) (G : AG) (h : AH) (a : Nat) : va_E := match (shp G a).1 with
  | 0 => .inl (cs.1, (shp G a).2, .inl (fun j => Int32.ofInt (h a j)))
  | 1 => .inl (cs.2.1, (shp G a).2, .inl (fun j => Int32.ofInt (h a j)))
  | 2 => .inl (cs.2.2.1, (shp G a).2, .inr (.inr (.inr (.inr (fun j => (rfs G a j).map (adr ba))))))
  | 3 => .inl (cs.2.2.2, (shp G a).2, .inr (.inr (.inr (.inr (fun j => (rfs G a j).map (adr ba))))))
  | c + 4 => .inr (c, (List.range (fN c)).map (fun j => fvl ba G h c a j))
def wsO (cs : CS) (ba : BA) (G : AG) (h : AH) : va_W := (List.range (gN G)).map (fun a => (adr ba a, celE cs ba G h a))
theorem wsO_get {cs : CS} {ba : BA} {G : AG} {h : AH} {a : Nat} (ha : a < gN G) : (wsO cs ba G h)[a]? = some (adr ba a, celE cs ba G h a) := by
  simp [wsO, ha]
theorem wsO_some {cs : CS} {ba : BA} {G : AG} {h : AH} {a : Nat} {q : Nat × va_E} (e : (wsO cs ba G h)[a]? = some q) : a < gN G ∧ q = (adr ba a, celE cs ba G h a) := by
  by_cases ha : a < gN G
  · rw [wsO_get ha] at e
    cases e
    exact ⟨ha, rfl⟩
  · rw [List.getElem?_eq_none (by simp [wsO]; omega)] at e
    cases e
theorem wsO_set {cs : CS} {ba : BA} {G G' : AG} {h h' : AH} {a : Nat} (hg : gN G' = gN G) (hb : ∀ b, b ≠ a → celE cs ba G' h' b = celE cs ba G h b) : (wsO cs ba G h).set a (adr ba a, celE cs ba G' h' a) = wsO cs ba G' h' := by
  apply List.ext_getElem?
  intro b
  by_cases hb1 : b < gN G
  · rw [wsO_get (G := G') (by omega), List.getElem?_set]
    by_cases e : a = b
    · subst e
      rw [if_pos rfl, if_pos (by simp [wsO]; exact hb1)]
    · rw [if_neg e, wsO_get hb1, hb b (fun q => e q.symm)]
  · rw [List.getElem?_eq_none (by simp [wsO]; omega), List.getElem?_eq_none (by simp [wsO]; omega)]
def AA (ba : BA) : Nat → Prop := fun q => ba.1 ≤ q
theorem wsO_D {cs : CS} {ba : BA} {G : AG} {h : AH} (hg : gN G ≤ 900) : va_D (AA ba) (wsO cs ba G h) := by
  refine ⟨fun i j x y hi hj e => ?_, fun i x hi => ?_⟩
  · obtain ⟨h1, rfl⟩ := wsO_some hi
    obtain ⟨h2, rfl⟩ := wsO_some hj
    dsimp only at e
    rw [adr_lo (by omega), adr_lo (by omega)] at e
    omega
  · obtain ⟨h1, rfl⟩ := wsO_some hi
    show ba.1 ≤ adr ba i
    rw [adr_lo (by omega)]
    omega
def tyS (cs : CS) : List (ClassId × FieldType) := [(cs.1, .int), (cs.2.1, .boolean), (cs.2.2.1, .object RX0), (cs.2.2.2, .object RX1)]
def FZ (ba : BA) (h : AH) (s : State) (H : Heap) : Prop := va_Z RX2 "RING_CELLS" "[I" (.ref ba.2.1) (AA ba) s H ∧ va_T .int ba.2.1 16 (fun j => .int (Int32.ofInt (h 1000 j))) (AA ba) s H ∧ va_T .int ba.2.2.1 ba.2.2.2 (fun j => .int (Int32.ofInt (h 1001 j))) (AA ba) s H ∧ h 1002 0 = (ba.2.2.2 : Int)
theorem FZ_h {ba : BA} {h h' : AH} {s : State} {H : Heap} (hh : ∀ a, 1000 ≤ a → h' a = h a) (q : FZ ba h s H) : FZ ba h' s H := by
  unfold FZ
  rw [hh 1000 (by omega), hh 1001 (by omega), hh 1002 (by omega)]
  exact q
theorem FZ_at {ba : BA} {h : AH} {s U : State} {H H1 : Heap} (hvm : s.vm.Alike U.vm) (hq : ∀ a : Nat, a < H.size → ¬ AA ba a → H1[a]? = H[a]?) (q : FZ ba h s H) : FZ ba h U H1 :=
  ⟨(q.1.kept hq).moved hvm, (q.2.1.kept hq).moved hvm, (q.2.2.1.kept hq).moved hvm, q.2.2.2⟩
def NS (s : State) : Prop := (∀ w ∈ nst, va_Nw w s) ∧ va_AO RX0 s ∧ va_AO RX1 s
theorem nst_warm {s U : State} (hW : s.WarmedH U.vm) : (∀ w ∈ nst, va_Nw w s) → ∀ w ∈ nst, va_Nw w U := by
  intro h w hw
  have h1 := h w hw
  simp only [nst, List.mem_cons, List.not_mem_nil, or_false] at hw
  rcases hw with rfl | rfl | rfl | rfl | rfl <;> first | exact va_Nw.warmM hW h1 | exact va_Nw.warmF hW h1
def AWS : List Cond := lw_tbl.filter goodWord
theorem inW_AWS {i : Nat} {w : Cond} (h : inW i w = true) : w ∈ AWS := by
  unfold inW at h
  rw [Bool.and_eq_true, decide_eq_true_eq] at h
  exact List.mem_filter.mpr ⟨List.mem_of_getElem? h.1, h.2⟩
theorem AWS_good {w : Cond} (h : w ∈ AWS) : (w.onTables && w.keeps) = true ∨ ∃ ty, w = .arrayClass ty := good_of_word (List.mem_filter.mp h).2
def LV (ba : BA) (arr : Array Slot) (ls : LC) : Prop := arr.size = ls.length ∧ lv_wf arr ∧ ∀ i v, ls.getD i none = some v → arr[i]? = some (.val (cv ba v))
def lvl (ba : BA) (ls : LC) : List (Nat × Value) := (List.range ls.length).filterMap (fun i => (ls.getD i none).map (fun v => (i, cv ba v)))
theorem mem_lvl {ba : BA} {ls : LC} {i : Nat} {w : Value} : (i, w) ∈ lvl ba ls ↔ ∃ v, ls.getD i none = some v ∧ w = cv ba v := by
  simp only [lvl, List.mem_filterMap, List.mem_range, Option.map_eq_some_iff, Prod.mk.injEq]
  constructor
  · rintro ⟨j, hj, v, hv, rfl, rfl⟩
    exact ⟨v, hv, rfl⟩
  · rintro ⟨v, hv, rfl⟩
    refine ⟨i, ?_, v, hv, rfl, rfl⟩
    rcases Nat.lt_or_ge i ls.length with q | q
    · exact q
    · rw [List.getD_eq_getElem?_getD, List.getElem?_eq_none q] at hv
      cases hv
theorem LV_has {ba : BA} {arr : Array Slot} {ls : LC} (h : LV ba arr ls) : lv_has arr ls.length (lvl ba ls) := by
  refine ⟨h.1, h.2.1, fun q hq => ?_⟩
  obtain ⟨i, w⟩ := q
  obtain ⟨v, h1, rfl⟩ := mem_lvl.mp hq
  exact h.2.2 i v h1
theorem LV_of {ba : BA} {arr : Array Slot} {ls : LC} {l : List (Nat × Value)} {n : Nat} (h : lv_has arr n l) (hn : n = ls.length) (hm : ∀ i v, ls.getD i none = some v → (i, cv ba v) ∈ l) : LV ba arr ls :=
  ⟨h.1.trans hn, h.2.1, fun i v hv => h.2.2 _ (hm i v hv)⟩
theorem getD_set {α : Type} {l : List α} {i j : Nat} {v d : α} (hi : i < l.length) : (l.set i v).getD j d = if j = i then v else l.getD j d := by
  rw [List.getD_eq_getElem?_getD, List.getD_eq_getElem?_getD, List.getElem?_set]
  by_cases e : i = j
  · subst e
    rw [if_pos rfl, if_pos rfl, if_pos hi]
    rfl
  · rw [if_neg e, if_neg (fun q => e q.symm)]
theorem len_st1 {ls : LC} {i : Nat} {v : AV} : (st1 ls i v).length = ls.length := by
  cases i <;> simp [st1]
theorem len_st2 {ls : LC} {i : Nat} {v : AV} : (st2 ls i v).length = ls.length := by
  unfold st2
  rw [List.length_set, len_st1]
theorem getD_st1 {ls : LC} {i j : Nat} {v : AV} (hi : i < ls.length) : (st1 ls i v).getD j none = if j = i then some v else if j + 1 = i then fixp (ls.getD j none) else ls.getD j none := by
  cases i with
  | zero =>
    unfold st1
    rw [getD_set hi]
    by_cases e : j = 0
    · rw [if_pos e, if_pos e]
    · rw [if_neg e, if_neg e, if_neg (by omega)]
  | succ i =>
    unfold st1
    rw [getD_set (by simpa using hi), getD_set (by omega)]
    by_cases e : j = i + 1
    · rw [if_pos e, if_pos e]
    · rw [if_neg e, if_neg e]
      by_cases e2 : j = i
      · subst e2
        rw [if_pos rfl, if_pos rfl]
      · rw [if_neg e2, if_neg (by omega)]
theorem fixp_some {l : Option AV} {v : AV} (h : fixp l = some v) : l = some v ∧ vcat v = 1 := by
  unfold fixp at h
  split at h
  · cases h
  · rename_i hne
    subst h
    refine ⟨rfl, ?_⟩
    rcases v with x | x | r
    · rfl
    · exact absurd rfl (hne x)
    · rfl
theorem LV_st1 {ba : BA} {arr : Array Slot} {ls : LC} {i : Nat} {v : AV} (hi : i < ls.length) (h : lv_has arr ls.length ((i, cv ba v) :: (lvl ba ls).filter (fun q => !(q.1 == i) && !(q.1 + 1 == i && q.2.category == 2)))) : LV ba arr (st1 ls i v) := by
  refine LV_of h len_st1.symm (fun j w hw => ?_)
  rw [getD_st1 hi] at hw
  by_cases e : j = i
  · subst e
    rw [if_pos rfl] at hw
    cases hw
    exact List.mem_cons_self
  · rw [if_neg e] at hw
    refine List.mem_cons_of_mem _ (List.mem_filter.mpr ?_)
    by_cases e2 : j + 1 = i
    · rw [if_pos e2] at hw
      obtain ⟨h1, h2⟩ := fixp_some hw
      refine ⟨mem_lvl.mpr ⟨w, h1, rfl⟩, ?_⟩
      simp [e, cv_cat, h2]
    · rw [if_neg e2] at hw
      refine ⟨mem_lvl.mpr ⟨w, hw, rfl⟩, ?_⟩
      simp [e, e2]
theorem LV_st2 {ba : BA} {arr : Array Slot} {ls : LC} {i : Nat} {v : AV} (hi : i + 1 < ls.length) (h : lv_has arr ls.length ((i, cv ba v) :: (lvl ba ls).filter (fun q => !(q.1 == i) && (!(q.1 == i + 1) && !(q.1 + 1 == i && q.2.category == 2))))) : LV ba arr (st2 ls i v) := by
  refine LV_of h len_st2.symm (fun j w hw => ?_)
  unfold st2 at hw
  rw [getD_set (by rw [len_st1]; exact hi)] at hw
  by_cases e1 : j = i + 1
  · rw [if_pos e1] at hw
    cases hw
  rw [if_neg e1, getD_st1 (by omega)] at hw
  by_cases e : j = i
  · subst e
    rw [if_pos rfl] at hw
    cases hw
    exact List.mem_cons_self
  · rw [if_neg e] at hw
    refine List.mem_cons_of_mem _ (List.mem_filter.mpr ?_)
    by_cases e2 : j + 1 = i
    · rw [if_pos e2] at hw
      obtain ⟨h1, h2⟩ := fixp_some hw
      refine ⟨mem_lvl.mpr ⟨w, h1, rfl⟩, ?_⟩
      simp [e, e1, cv_cat, h2]
    · rw [if_neg e2] at hw
      refine ⟨mem_lvl.mpr ⟨w, hw, rfl⟩, ?_⟩
      simp [e, e1, e2]
/-- the list of cells is as it should be -/
def okG (G : AG) : Prop := gN G ≤ 900 ∧ G.2.length = gN G ∧ ∀ a, a < gN G → 2 ≤ (shp G a).1 → (G.2.getD a []).length = (shp G a).2
/-- what holds of a method that runs -/
def CT (k : Nat) (p : Program) (s : State) (m : MethodId) (args : Array Value) (meth : Method) (c : Code) (D : va_G) (cs : CS) (ba : BA) (n0 : Nat) : Prop :=
  p.tables.exec = Jvm.exec ∧ c.code = P_b k ∧ meth.sig.returnType = P_r k ∧ c.maxLocals = P_l k ∧ s.vm.findClass (P_o k) = some m.cls ∧ (∀ w ∈ AWS, w.before args s = true) ∧ meth.locks = false ∧ ((P_y k).name = "<init>" → meth.name = "<init>") ∧ NS s ∧ va_K D vwCl (tyS cs) s ∧ s.heap.size = ba.1 + n0
/-- from this place of the reading the machine comes to Q -/
def GO (p : Program) (l : Launch) (e : Env) (R : Room) (s : State) (m : MethodId) (args : Array Value) (below : List Frame) (meth : Method) (c : Code) (D : va_G) (cs : CS) (ba : BA) (n0 z0 : Nat) (Q : State → Prop) (pc : Nat) (ls : LC) (st : List AV) (G : AG) (h : AH) : Prop :=
  ∀ (arr : Array Slot) (H : Heap) (locs : List Loc), LV ba arr ls → va_P D vwCl (wsO cs ba G h) H → va_S (AA ba) s.heap H locs → FZ ba h s s.heap → okG G → n0 ≤ gN G → z0 ≤ gZ G →
    W p l e R s m args below meth c H locs (gN G - n0) (gZ G - z0) Q (F0 m pc arr (st.map (cv ba)))
section
variable {p : Program} {l : Launch} {e : Env} {R : Room} {s : State} {m : MethodId} {args : Array Value} {below : List Frame} {meth : Method} {c : Code} {D : va_G} {cs : CS} {ba : BA} {n0 z0 : Nat} {Q : State → Prop} {k pc : Nat} {ls : LC} {st : List AV} {G : AG} {h : AH}
theorem i32_lt {x y : Int} (hx : -2147483648 ≤ x ∧ x < 2147483648) (hy : -2147483648 ≤ y ∧ y < 2147483648) : Int32.ofInt x < Int32.ofInt y ↔ x < y := by
  rw [Int32.lt_iff_toInt_lt, Int32.toInt_ofInt_of_le (by omega) (by omega), Int32.toInt_ofInt_of_le (by omega) (by omega)]
theorem i32_le {x y : Int} (hx : -2147483648 ≤ x ∧ x < 2147483648) (hy : -2147483648 ≤ y ∧ y < 2147483648) : Int32.ofInt x ≤ Int32.ofInt y ↔ x ≤ y := by
  rw [Int32.le_iff_toInt_le, Int32.toInt_ofInt_of_le (by omega) (by omega), Int32.toInt_ofInt_of_le (by omega) (by omega)]
theorem i32_eq {x y : Int} (hx : -2147483648 ≤ x ∧ x < 2147483648) (hy : -2147483648 ≤ y ∧ y < 2147483648) : Int32.ofInt x = Int32.ofInt y ↔ x = y := by
  rw [← Int32.toInt_inj, Int32.toInt_ofInt_of_le (by omega) (by omega), Int32.toInt_ofInt_of_le (by omega) (by omega)]
theorem i64_lt {x y : Int} (hx : -9223372036854775808 ≤ x ∧ x < 9223372036854775808) (hy : -9223372036854775808 ≤ y ∧ y < 9223372036854775808) : Int64.ofInt x < Int64.ofInt y ↔ x < y := by
  rw [Int64.lt_iff_toInt_lt, Int64.toInt_ofInt_of_le (by omega) (by omega), Int64.toInt_ofInt_of_le (by omega) (by omega)]
theorem i64_eq {x y : Int} (hx : -9223372036854775808 ≤ x ∧ x < 9223372036854775808) (hy : -9223372036854775808 ≤ y ∧ y < 9223372036854775808) : Int64.ofInt x = Int64.ofInt y ↔ x = y := by
  rw [← Int64.toInt_inj, Int64.toInt_ofInt_of_le (by omega) (by omega), Int64.toInt_ofInt_of_le (by omega) (by omega)]
theorem i32_in {i : Int} {n : Nat} (h0 : 0 ≤ i) (h1 : i < n) (hn : n ≤ 100000) : vp_in (Int32.ofInt i) n ∧ (Int32.ofInt i).toNatClampNeg = i.toNat := by
  have e : (Int32.ofInt i).toInt = i := Int32.toInt_ofInt_of_le (by omega) (by omega)
  refine ⟨vp_in_iff.mpr (by rw [e]; omega), Int32.toNatClampNeg_ofInt_of_le (by omega) (by omega)⟩
theorem i32_div {x y : Int} (hx : -2147483648 ≤ x ∧ x < 2147483648) (hy : 0 < y ∧ y < 2147483648) : Int32.ofInt (x.tdiv y) = Int32.ofInt x / Int32.ofInt y := by
  apply Int32.toInt_inj.mp
  rw [Int32.toInt_div, Int32.toInt_ofInt, Int32.toInt_ofInt_of_le (n := x) (by omega) (by omega), Int32.toInt_ofInt_of_le (n := y) (by omega) (by omega)]
theorem i64_div {x y : Int} (hx : -9223372036854775808 ≤ x ∧ x < 9223372036854775808) (hy : 0 < y ∧ y < 9223372036854775808) : Int64.ofInt (x.tdiv y) = Int64.ofInt x / Int64.ofInt y := by
  apply Int64.toInt_inj.mp
  rw [Int64.toInt_div, Int64.toInt_ofInt, Int64.toInt_ofInt_of_le (n := x) (by omega) (by omega), Int64.toInt_ofInt_of_le (n := y) (by omega) (by omega)]
theorem i32_rem {x y : Int} (hx : -2147483648 ≤ x ∧ x < 2147483648) (hy : 0 < y ∧ y < 2147483648) : Int32.ofInt (x.tmod y) = Int32.ofInt x - Int32.ofInt x / Int32.ofInt y * Int32.ofInt y := by
  rw [← i32_div hx hy, ← Int32.ofInt_mul, ← Int32.ofInt_sub, Int.tmod_def, Int.mul_comm]
theorem i64_rem {x y : Int} (hx : -9223372036854775808 ≤ x ∧ x < 9223372036854775808) (hy : 0 < y ∧ y < 9223372036854775808) : Int64.ofInt (x.tmod y) = Int64.ofInt x - Int64.ofInt x / Int64.ofInt y * Int64.ofInt y := by
  rw [← i64_div hx hy, ← Int64.ofInt_mul, ← Int64.ofInt_sub, Int.tmod_def, Int.mul_comm]
theorem i32_ne0 {y : Int} (hy : 0 < y ∧ y < 2147483648) : ¬ Int32.ofInt y = 0 := by
  intro q
  have := congrArg Int32.toInt q
  rw [Int32.toInt_ofInt_of_le (by omega) (by omega)] at this
  simp at this
  omega
theorem i64_ne0 {y : Int} (hy : 0 < y ∧ y < 9223372036854775808) : ¬ Int64.ofInt y = 0 := by
  intro q
  have := congrArg Int64.toInt q
  rw [Int64.toInt_ofInt_of_le (by omega) (by omega)] at this
  simp at this
  omega
end
