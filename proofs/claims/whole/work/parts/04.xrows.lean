/-! 04: rows of one instruction each, over the reading -/
section
variable {d k pc : Nat} {ls : LC} {st : List AV} {G : AG} {h : AH} {Q : Option AV → AG → AH → Prop} {a b : Nat} {c : Int}
theorem jmp_to {off : Int} {tgt : Nat} (ht : (pc : Int) + off = (tgt : Nat)) : jmp pc off ls st G h = some (.inl (tgt, ls, st, G, h)) := by
  unfold jmp
  rw [if_pos (by omega), ht]
  rfl
theorem x_goto {off : Int} {tgt : Nat} (hE : ent k pc = some (.goto off, a, b, c)) (ht : (pc : Int) + off = (tgt : Nat)) : wp d k pc ls st G h Q = wp d k tgt ls st G h Q := wp_nx (by unfold step; rw [hE]; exact jmp_to ht)
theorem x_if {cd : Jvm.ClassFile.Cond} {off x : Int} {tgt : Nat} (hE : ent k pc = some (.ifCond cd off, a, b, c)) (ht : (pc : Int) + off = (tgt : Nat)) (hx : -2147483648 ≤ x ∧ x < 2147483648) : wp d k pc ls (.inl x :: st) G h Q = if tst cd x 0 = true then wp d k tgt ls st G h Q else wp d k (pc + 3) ls st G h Q := by
  by_cases ht2 : tst cd x 0 = true
  · rw [if_pos ht2]
    exact wp_nx (by unfold step; rw [hE]; simp only [stepI, ifS]; rw [if_pos hx, if_pos ht2]; exact jmp_to ht)
  · rw [if_neg ht2]
    exact wp_nx (by unfold step; rw [hE]; simp only [stepI, ifS]; rw [if_pos hx, if_neg ht2]; rfl)
theorem x_icmp {cd : Jvm.ClassFile.Cond} {off x y : Int} {tgt : Nat} (hE : ent k pc = some (.if_icmp cd off, a, b, c)) (ht : (pc : Int) + off = (tgt : Nat)) (hx : ((-2147483648 ≤ x ∧ x < 2147483648) ∧ (-2147483648 ≤ y ∧ y < 2147483648)) ∨ x = y) : wp d k pc ls (.inl y :: .inl x :: st) G h Q = if tst cd x y = true then wp d k tgt ls st G h Q else wp d k (pc + 3) ls st G h Q := by
  by_cases ht2 : tst cd x y = true
  · rw [if_pos ht2]
    exact wp_nx (by unfold step; rw [hE]; simp only [stepI, icmpS]; rw [if_pos hx, if_pos ht2]; exact jmp_to ht)
  · rw [if_neg ht2]
    exact wp_nx (by unfold step; rw [hE]; simp only [stepI, icmpS]; rw [if_pos hx, if_neg ht2]; rfl)
theorem ite_iff {p q : Prop} [Decidable p] [Decidable q] {α : Sort _} {u v : α} (e : p ↔ q) : (if p then u else v) = if q then u else v := by
  by_cases hq : q
  · rw [if_pos hq, if_pos (e.mpr hq)]
  · rw [if_neg hq, if_neg (fun h => hq (e.mp h))]
theorem tst_eq (x y : Int) : tst .eq x y = true ↔ x = y := by simp [tst]
theorem tst_ne (x y : Int) : tst .ne x y = true ↔ ¬ x = y := by simp [tst]
theorem tst_lt (x y : Int) : tst .lt x y = true ↔ x < y := by simp [tst]
theorem tst_ge (x y : Int) : tst .ge x y = true ↔ y ≤ x := by simp [tst]
theorem tst_gt (x y : Int) : tst .gt x y = true ↔ y < x := by simp [tst]
theorem tst_le (x y : Int) : tst .le x y = true ↔ x ≤ y := by simp [tst]
/-- a branch: its row, and the two rows where it is decided; P is what the test says -/
theorem x_ifc {cd : Jvm.ClassFile.Cond} {off x : Int} {tgt : Nat} (P : Prop) [Decidable P] (hP : tst cd x 0 = true ↔ P) (hE : ent k pc = some (.ifCond cd off, a, b, c)) (ht : (pc : Int) + off = (tgt : Nat)) (hx : -2147483648 ≤ x ∧ x < 2147483648) : wp d k pc ls (.inl x :: st) G h Q = if P then wp d k tgt ls st G h Q else wp d k (pc + 3) ls st G h Q := (x_if hE ht hx).trans (ite_iff hP)
theorem x_ift {cd : Jvm.ClassFile.Cond} {off x : Int} {tgt : Nat} (P : Prop) [Decidable P] (hP : tst cd x 0 = true ↔ P) (hE : ent k pc = some (.ifCond cd off, a, b, c)) (ht : (pc : Int) + off = (tgt : Nat)) (hx : (-2147483648 ≤ x ∧ x < 2147483648) ∧ P) : wp d k pc ls (.inl x :: st) G h Q = wp d k tgt ls st G h Q := (x_ifc P hP hE ht hx.1).trans (if_pos hx.2)
theorem x_iff {cd : Jvm.ClassFile.Cond} {off x : Int} {tgt : Nat} (P : Prop) [Decidable P] (hP : tst cd x 0 = true ↔ P) (hE : ent k pc = some (.ifCond cd off, a, b, c)) (ht : (pc : Int) + off = (tgt : Nat)) (hx : (-2147483648 ≤ x ∧ x < 2147483648) ∧ ¬ P) : wp d k pc ls (.inl x :: st) G h Q = wp d k (pc + 3) ls st G h Q := (x_ifc P hP hE ht hx.1).trans (if_neg hx.2)
theorem x_icc {cd : Jvm.ClassFile.Cond} {off x y : Int} {tgt : Nat} (P : Prop) [Decidable P] (hP : tst cd x y = true ↔ P) (hE : ent k pc = some (.if_icmp cd off, a, b, c)) (ht : (pc : Int) + off = (tgt : Nat)) (hx : ((-2147483648 ≤ x ∧ x < 2147483648) ∧ (-2147483648 ≤ y ∧ y < 2147483648)) ∨ x = y) : wp d k pc ls (.inl y :: .inl x :: st) G h Q = if P then wp d k tgt ls st G h Q else wp d k (pc + 3) ls st G h Q := (x_icmp hE ht hx).trans (ite_iff hP)
theorem x_ict {cd : Jvm.ClassFile.Cond} {off x y : Int} {tgt : Nat} (P : Prop) [Decidable P] (hP : tst cd x y = true ↔ P) (hE : ent k pc = some (.if_icmp cd off, a, b, c)) (ht : (pc : Int) + off = (tgt : Nat)) (hx : (((-2147483648 ≤ x ∧ x < 2147483648) ∧ (-2147483648 ≤ y ∧ y < 2147483648)) ∨ x = y) ∧ P) : wp d k pc ls (.inl y :: .inl x :: st) G h Q = wp d k tgt ls st G h Q := (x_icc P hP hE ht hx.1).trans (if_pos hx.2)
theorem x_icf {cd : Jvm.ClassFile.Cond} {off x y : Int} {tgt : Nat} (P : Prop) [Decidable P] (hP : tst cd x y = true ↔ P) (hE : ent k pc = some (.if_icmp cd off, a, b, c)) (ht : (pc : Int) + off = (tgt : Nat)) (hx : (((-2147483648 ≤ x ∧ x < 2147483648) ∧ (-2147483648 ≤ y ∧ y < 2147483648)) ∨ x = y) ∧ ¬ P) : wp d k pc ls (.inl y :: .inl x :: st) G h Q = wp d k (pc + 3) ls st G h Q := (x_icc P hP hE ht hx.1).trans (if_neg hx.2)
theorem x_ald {kd a0 : Nat} {i : Int} (hs : step k pc ls (.inl i :: .inr (.inr (some a0)) :: st) G h = aldS kd pc ls (.inl i :: .inr (.inr (some a0)) :: st) G h) (hk : (a0 < 1000 ∧ (shp G a0).1 = kd) ∧ 0 ≤ i ∧ i < (shp G a0).2 ∧ (shp G a0).2 ≤ 100000) : wp d k pc ls (.inl i :: .inr (.inr (some a0)) :: st) G h Q = wp d k (pc + 1) ls (.inl (h a0 i.toNat) :: st) G h Q := wp_nx (by
  obtain ⟨⟨h1, h2⟩, h3, h4, h5⟩ := hk
  rw [hs]
  have n1 : ¬ a0 = 1000 := by omega
  have n2 : ¬ a0 = 1001 := by omega
  simp only [aldS, akd, aln, n1, n2, or_self, if_false]
  rw [if_pos (by omega)]
  rfl)
theorem x_ring {i : Int} (hs : step k pc ls (.inl i :: .inr (.inr (some 1000)) :: st) G h = aldS 0 pc ls (.inl i :: .inr (.inr (some 1000)) :: st) G h) (hk : 0 ≤ i ∧ i < 16) : wp d k pc ls (.inl i :: .inr (.inr (some 1000)) :: st) G h Q = wp d k (pc + 1) ls (.inl (h 1000 i.toNat) :: st) G h Q := wp_nx (by
  rw [hs]
  simp only [aldS, akd, aln, true_or, if_true]
  rw [if_pos (by simp; omega)]
  rfl)
theorem x_scr {i : Int} (hs : step k pc ls (.inl i :: .inr (.inr (some 1001)) :: st) G h = aldS 0 pc ls (.inl i :: .inr (.inr (some 1001)) :: st) G h) (hk : 0 ≤ i ∧ i < h 1002 0 ∧ h 1002 0 ≤ 100000) : wp d k pc ls (.inl i :: .inr (.inr (some 1001)) :: st) G h Q = wp d k (pc + 1) ls (.inl (h 1001 i.toNat) :: st) G h Q := wp_nx (by
  rw [hs]
  have n1 : ¬ (1001 = 1000) := by omega
  simp only [aldS, akd, aln, n1, or_true, if_true, if_false]
  rw [if_pos (by simp; omega)]
  rfl)
theorem x_ast {a0 : Nat} {i x : Int} (hs : step k pc ls (.inl x :: .inl i :: .inr (.inr (some a0)) :: st) G h = astS 0 pc ls (.inl x :: .inl i :: .inr (.inr (some a0)) :: st) G h) (hk : (a0 < 1000 ∧ (shp G a0).1 = 0) ∧ 0 ≤ i ∧ i < (shp G a0).2 ∧ (shp G a0).2 ≤ 100000) : wp d k pc ls (.inl x :: .inl i :: .inr (.inr (some a0)) :: st) G h Q = wp d k (pc + 1) ls st G (put h a0 i.toNat x) Q := wp_nx (by
  obtain ⟨⟨h1, h2⟩, h3, h4, h5⟩ := hk
  rw [hs]
  simp only [astS]
  rw [if_pos (by simp only [true_or, and_true]; omega)]
  rfl)
theorem x_bast {a0 : Nat} {i x : Int} (hs : step k pc ls (.inl x :: .inl i :: .inr (.inr (some a0)) :: st) G h = astS 1 pc ls (.inl x :: .inl i :: .inr (.inr (some a0)) :: st) G h) (hk : ((a0 < 1000 ∧ (shp G a0).1 = 1) ∧ 0 ≤ i ∧ i < (shp G a0).2 ∧ (shp G a0).2 ≤ 100000) ∧ (x = 0 ∨ x = 1)) : wp d k pc ls (.inl x :: .inl i :: .inr (.inr (some a0)) :: st) G h Q = wp d k (pc + 1) ls st G (put h a0 i.toNat x) Q := wp_nx (by
  obtain ⟨⟨⟨h1, h2⟩, h3, h4, h5⟩, h6⟩ := hk
  rw [hs]
  simp only [astS]
  rw [if_pos (by omega)]
  rfl)
theorem x_aald {a0 : Nat} {i : Int} (hs : step k pc ls (.inl i :: .inr (.inr (some a0)) :: st) G h = aaldS pc ls (.inl i :: .inr (.inr (some a0)) :: st) G h) (hk : ((shp G a0).1 = 2 ∨ (shp G a0).1 = 3) ∧ 0 ≤ i ∧ i < (shp G a0).2 ∧ (shp G a0).2 ≤ 100000) : wp d k pc ls (.inl i :: .inr (.inr (some a0)) :: st) G h Q = wp d k (pc + 1) ls (.inr (.inr (rfs G a0 i.toNat)) :: st) G h Q := wp_nx (by
  rw [hs]
  simp only [aaldS]
  rw [if_pos hk]
  rfl)
theorem x_aast {a0 b0 : Nat} {i : Int} (hs : step k pc ls (.inr (.inr (some b0)) :: .inl i :: .inr (.inr (some a0)) :: st) G h = aastS pc ls (.inr (.inr (some b0)) :: .inl i :: .inr (.inr (some a0)) :: st) G h) (hk : (((shp G a0).1 = 2 ∧ (shp G b0).1 = 4) ∨ ((shp G a0).1 = 3 ∧ (shp G b0).1 = 5)) ∧ 0 ≤ i ∧ i < (shp G a0).2 ∧ (shp G a0).2 ≤ 100000) : wp d k pc ls (.inr (.inr (some b0)) :: .inl i :: .inr (.inr (some a0)) :: st) G h Q = wp d k (pc + 1) ls st (srf G a0 i.toNat (some b0)) h Q := wp_nx (by
  rw [hs]
  simp only [aastS]
  rw [if_pos hk]
  rfl)
theorem x_alen {a0 : Nat} (hs : step k pc ls (.inr (.inr (some a0)) :: st) G h = alenS pc ls (.inr (.inr (some a0)) :: st) G h) (hk : a0 < 1000 ∧ (shp G a0).1 ≤ 3 ∧ (shp G a0).2 ≤ 100000) : wp d k pc ls (.inr (.inr (some a0)) :: st) G h Q = wp d k (pc + 1) ls (.inl (shp G a0).2 :: st) G h Q := wp_nx (by
  obtain ⟨h1, h2, h3⟩ := hk
  rw [hs]
  have n1 : ¬ a0 = 1000 := by omega
  have n2 : ¬ a0 = 1001 := by omega
  simp only [alenS, akd, aln, n1, n2, or_self, if_false]
  rw [if_pos (by omega)]
  rfl)
theorem x_rlen (hs : step k pc ls (.inr (.inr (some 1000)) :: st) G h = alenS pc ls (.inr (.inr (some 1000)) :: st) G h) : wp d k pc ls (.inr (.inr (some 1000)) :: st) G h Q = wp d k (pc + 1) ls (.inl 16 :: st) G h Q := wp_nx (by
  rw [hs]
  simp only [alenS, akd, aln, true_or, if_true]
  rw [if_pos (by omega)]
  rfl)
theorem x_slen (hs : step k pc ls (.inr (.inr (some 1001)) :: st) G h = alenS pc ls (.inr (.inr (some 1001)) :: st) G h) (hk : 0 ≤ h 1002 0 ∧ h 1002 0 ≤ 100000) : wp d k pc ls (.inr (.inr (some 1001)) :: st) G h Q = wp d k (pc + 1) ls (.inl (h 1002 0) :: st) G h Q := wp_nx (by
  rw [hs]
  have n1 : ¬ (1001 = 1000) := by omega
  simp only [alenS, akd, aln, n1, or_true, if_true, if_false]
  rw [if_pos (by omega)]
  rfl)
theorem shp_eq {G : AG} {o m n : Nat} (hk : (shp G o).1 = m ∧ (shp G o).2 = n) : shp G o = (m, n) := Prod.ext hk.1 hk.2
theorem x_getI {ci k0 o : Nat} (hs : step k pc ls (.inr (.inr (some o)) :: st) G h = getfS ci k0 pc ls (.inr (.inr (some o)) :: st) G h) (hf : fty ci k0 = 0 ∨ fty ci k0 = 3) (hk0 : k0 < fN ci) (hk : (shp G o).1 = 4 + ci ∧ (shp G o).2 = fN ci) : wp d k pc ls (.inr (.inr (some o)) :: st) G h Q = wp d k (pc + 3) ls (.inl (h o k0) :: st) G h Q := wp_nx (by
  rw [hs]
  simp only [getfS]
  rw [if_pos ⟨shp_eq hk, hk0⟩]
  rcases hf with hf | hf <;> rw [hf] <;> rfl)
theorem x_getL {ci k0 o : Nat} (hs : step k pc ls (.inr (.inr (some o)) :: st) G h = getfS ci k0 pc ls (.inr (.inr (some o)) :: st) G h) (hf : fty ci k0 = 1) (hk0 : k0 < fN ci) (hk : (shp G o).1 = 4 + ci ∧ (shp G o).2 = fN ci) : wp d k pc ls (.inr (.inr (some o)) :: st) G h Q = wp d k (pc + 3) ls (.inr (.inl (h o k0)) :: st) G h Q := wp_nx (by
  rw [hs]
  simp only [getfS]
  rw [if_pos ⟨shp_eq hk, hk0⟩, hf]
  rfl)
theorem x_getR {ci k0 o : Nat} (hs : step k pc ls (.inr (.inr (some o)) :: st) G h = getfS ci k0 pc ls (.inr (.inr (some o)) :: st) G h) (hf : fty ci k0 = 2) (hk0 : k0 < fN ci) (hk : (shp G o).1 = 4 + ci ∧ (shp G o).2 = fN ci) : wp d k pc ls (.inr (.inr (some o)) :: st) G h Q = wp d k (pc + 3) ls (.inr (.inr (rfs G o k0)) :: st) G h Q := wp_nx (by
  rw [hs]
  simp only [getfS]
  rw [if_pos ⟨shp_eq hk, hk0⟩, hf]
  rfl)
theorem x_putI {ci k0 o : Nat} {x : Int} (hs : step k pc ls (.inl x :: .inr (.inr (some o)) :: st) G h = putfS ci k0 pc ls (.inl x :: .inr (.inr (some o)) :: st) G h) (hf : fty ci k0 = 0) (hk0 : k0 < fN ci) (hk : (shp G o).1 = 4 + ci ∧ (shp G o).2 = fN ci) : wp d k pc ls (.inl x :: .inr (.inr (some o)) :: st) G h Q = wp d k (pc + 3) ls st G (put h o k0 x) Q := wp_nx (by
  rw [hs]
  simp only [putfS]
  rw [if_pos ⟨shp_eq hk, hk0⟩, hf]
  rfl)
theorem x_putZ {ci k0 o : Nat} {x : Int} (hs : step k pc ls (.inl x :: .inr (.inr (some o)) :: st) G h = putfS ci k0 pc ls (.inl x :: .inr (.inr (some o)) :: st) G h) (hf : fty ci k0 = 3) (hk0 : k0 < fN ci) (hk : ((shp G o).1 = 4 + ci ∧ (shp G o).2 = fN ci) ∧ (x = 0 ∨ x = 1)) : wp d k pc ls (.inl x :: .inr (.inr (some o)) :: st) G h Q = wp d k (pc + 3) ls st G (put h o k0 x) Q := wp_nx (by
  rw [hs]
  simp only [putfS]
  rw [if_pos ⟨shp_eq hk.1, hk0⟩, hf]
  show (if x = 0 ∨ x = 1 then _ else _) = _
  rw [if_pos hk.2]
  rfl)
theorem x_putL {ci k0 o : Nat} {x : Int} (hs : step k pc ls (.inr (.inl x) :: .inr (.inr (some o)) :: st) G h = putfS ci k0 pc ls (.inr (.inl x) :: .inr (.inr (some o)) :: st) G h) (hf : fty ci k0 = 1) (hk0 : k0 < fN ci) (hk : (shp G o).1 = 4 + ci ∧ (shp G o).2 = fN ci) : wp d k pc ls (.inr (.inl x) :: .inr (.inr (some o)) :: st) G h Q = wp d k (pc + 3) ls st G (put h o k0 x) Q := wp_nx (by
  rw [hs]
  simp only [putfS]
  rw [if_pos ⟨shp_eq hk, hk0⟩, hf]
  rfl)
theorem x_putR {ci k0 o r : Nat} (hs : step k pc ls (.inr (.inr (some r)) :: .inr (.inr (some o)) :: st) G h = putfS ci k0 pc ls (.inr (.inr (some r)) :: .inr (.inr (some o)) :: st) G h) (hf : fty ci k0 = 2) (hk0 : k0 < fN ci) (hk : (shp G o).1 = 4 + ci ∧ (shp G o).2 = fN ci) : wp d k pc ls (.inr (.inr (some r)) :: .inr (.inr (some o)) :: st) G h Q = wp d k (pc + 3) ls st (srf G o k0 (some r)) h Q := wp_nx (by
  rw [hs]
  simp only [putfS]
  rw [if_pos ⟨shp_eq hk, hk0⟩, hf]
  rfl)
theorem vcat_le : ∀ st : List AV, (st.map vcat).sum ≤ 2 * st.length
  | [] => Nat.le_refl _
  | v :: t => by
    have := vcat_le t
    have hv : vcat v ≤ 2 := by unfold vcat; split <;> omega
    simp only [List.map_cons, List.sum_cons, List.length_cons]
    omega
theorem rcv_ok {virt o : Nat} (hk : (shp G o).1 = 4 + virt ∧ (shp G o).2 = fN virt) : rcv virt G (some (.inr (.inr (some o)))) = true := by
  unfold rcv
  split
  · rfl
  · simp [shp_eq hk]
theorem x_inv {j b virt : Nat} {as rest : List AV} (hs : step k pc ls st G h = invS j b virt pc ls st G h) (hst : st = as.reverse ++ rest) (hb : as.length = b) (hw : rest.length ≤ 4) (hr : rcv virt G as.head? = true) : wp d k pc ls st G h Q = call d j as G h (fun r G2 h2 => wp d k (pc + 3) ls (pushR r rest) G2 h2 Q) := wp_cl (by
  rw [hs, hst]
  have e1 : (as.reverse ++ rest).take b = as.reverse := by rw [← hb, ← List.length_reverse]; simp
  have e2 : (as.reverse ++ rest).drop b = rest := by rw [← hb, ← List.length_reverse]; simp
  unfold invS
  rw [e1, e2]
  have hv := vcat_le rest
  rw [if_pos ⟨by simp; omega, by omega, by rw [List.getLast?_reverse]; exact hr⟩, List.reverse_reverse])
theorem x_i2l {x : Int} (hs : step k pc ls (.inl x :: st) G h = i2lS pc ls (.inl x :: st) G h) (hx : -2147483648 ≤ x ∧ x < 2147483648) : wp d k pc ls (.inl x :: st) G h Q = wp d k (pc + 1) ls (.inr (.inl x) :: st) G h Q := wp_nx (by
  rw [hs]
  simp only [i2lS]
  rw [if_pos hx]
  rfl)
theorem x_div {f : Int → Int → Int} {x y : Int} (hs : step k pc ls (.inl y :: .inl x :: st) G h = divI f pc ls (.inl y :: .inl x :: st) G h) (hx : (-2147483648 ≤ x ∧ x < 2147483648) ∧ 0 < y ∧ y < 2147483648) : wp d k pc ls (.inl y :: .inl x :: st) G h Q = wp d k (pc + 1) ls (.inl (f x y) :: st) G h Q := wp_nx (by
  rw [hs]
  simp only [divI]
  rw [if_pos hx]
  rfl)
theorem x_divn {x y : Int} (hs : step k pc ls (.inl y :: .inl x :: st) G h = divI Int.tdiv pc ls (.inl y :: .inl x :: st) G h) (hx : (0 ≤ x ∧ x < 2147483648) ∧ 0 < y ∧ y < 2147483648) : wp d k pc ls (.inl y :: .inl x :: st) G h Q = wp d k (pc + 1) ls (.inl (x / y) :: st) G h Q := by
  rw [x_div hs (by omega), Int.tdiv_eq_ediv_of_nonneg hx.1.1]
theorem x_remn {x y : Int} (hs : step k pc ls (.inl y :: .inl x :: st) G h = divI Int.tmod pc ls (.inl y :: .inl x :: st) G h) (hx : (0 ≤ x ∧ x < 2147483648) ∧ 0 < y ∧ y < 2147483648) : wp d k pc ls (.inl y :: .inl x :: st) G h Q = wp d k (pc + 1) ls (.inl (x % y) :: st) G h Q := by
  rw [x_div hs (by omega), Int.tmod_eq_emod_of_nonneg hx.1.1]
theorem x_divL {f : Int → Int → Int} {x y : Int} (hs : step k pc ls (.inr (.inl y) :: .inr (.inl x) :: st) G h = divL f pc ls (.inr (.inl y) :: .inr (.inl x) :: st) G h) (hx : (-9223372036854775808 ≤ x ∧ x < 9223372036854775808) ∧ 0 < y ∧ y < 9223372036854775808) : wp d k pc ls (.inr (.inl y) :: .inr (.inl x) :: st) G h Q = wp d k (pc + 1) ls (.inr (.inl (f x y)) :: st) G h Q := wp_nx (by
  rw [hs]
  simp only [divL]
  rw [if_pos hx]
  rfl)
theorem x_divnL {x y : Int} (hs : step k pc ls (.inr (.inl y) :: .inr (.inl x) :: st) G h = divL Int.tdiv pc ls (.inr (.inl y) :: .inr (.inl x) :: st) G h) (hx : (0 ≤ x ∧ x < 9223372036854775808) ∧ 0 < y ∧ y < 9223372036854775808) : wp d k pc ls (.inr (.inl y) :: .inr (.inl x) :: st) G h Q = wp d k (pc + 1) ls (.inr (.inl (x / y)) :: st) G h Q := by
  rw [x_divL hs (by omega), Int.tdiv_eq_ediv_of_nonneg hx.1.1]
theorem x_remnL {x y : Int} (hs : step k pc ls (.inr (.inl y) :: .inr (.inl x) :: st) G h = divL Int.tmod pc ls (.inr (.inl y) :: .inr (.inl x) :: st) G h) (hx : (0 ≤ x ∧ x < 9223372036854775808) ∧ 0 < y ∧ y < 9223372036854775808) : wp d k pc ls (.inr (.inl y) :: .inr (.inl x) :: st) G h Q = wp d k (pc + 1) ls (.inr (.inl (x % y)) :: st) G h Q := by
  rw [x_divL hs (by omega), Int.tmod_eq_emod_of_nonneg hx.1.1]
theorem x_lcmp {x y : Int} (hs : step k pc ls (.inr (.inl y) :: .inr (.inl x) :: st) G h = lcmpS pc ls (.inr (.inl y) :: .inr (.inl x) :: st) G h) (hx : x = y ∨ ((-9223372036854775808 ≤ x ∧ x < 9223372036854775808) ∧ (-9223372036854775808 ≤ y ∧ y < 9223372036854775808))) : wp d k pc ls (.inr (.inl y) :: .inr (.inl x) :: st) G h Q = wp d k (pc + 1) ls (.inl (if x = y then 0 else if y < x then 1 else -1) :: st) G h Q := wp_nx (by
  rw [hs]
  simp only [lcmpS]
  by_cases e : x = y
  · rw [if_pos e, if_pos e]; rfl
  · rw [if_neg e, if_neg e, if_pos (by omega)]; rfl)
theorem x_retI {x : Int} (hs : step k pc ls [.inl x] G h = ret1 0 [.inl x]) : wp d k pc ls [.inl x] G h Q = Q (some (.inl x)) G h := wp_rt (by rw [hs]; rfl)
theorem x_retZ {x : Int} (hs : step k pc ls [.inl x] G h = ret1 1 [.inl x]) (hx : x = 0 ∨ x = 1) : wp d k pc ls [.inl x] G h Q = Q (some (.inl x)) G h := wp_rt (by
  rw [hs]
  simp only [ret1]
  rw [if_pos (Or.inr ⟨trivial, hx⟩)])
theorem x_cop {a0 b0 : Nat} {n dp sp : Int} (hs : step k pc ls (.inl n :: .inl dp :: .inr (.inr (some a0)) :: .inl sp :: .inr (.inr (some b0)) :: st) G h = copS pc ls (.inl n :: .inl dp :: .inr (.inr (some a0)) :: .inl sp :: .inr (.inr (some b0)) :: st) G h) (hw : st.length ≤ 4)
    (hk : a0 < 1000 ∧ b0 < 1000 ∧ (shp G a0).1 = 0 ∧ (shp G b0).1 = 0 ∧ 0 ≤ n ∧ 0 ≤ dp ∧ 0 ≤ sp ∧ sp + n ≤ (shp G b0).2 ∧ dp + n ≤ (shp G a0).2 ∧ (shp G a0).2 ≤ 100000 ∧ (shp G b0).2 ≤ 100000) : wp d k pc ls (.inl n :: .inl dp :: .inr (.inr (some a0)) :: .inl sp :: .inr (.inr (some b0)) :: st) G h Q = wp d k (pc + 3) ls st G (fun a' k' => if a' = a0 ∧ dp ≤ (k' : Int) ∧ (k' : Int) < dp + n then h b0 (sp.toNat + (k' - dp.toNat)) else h a' k') Q := wp_nx (by
  rw [hs]
  simp only [copS]
  have hv := vcat_le st
  rw [if_pos ⟨hk, by omega⟩]
  rfl)
theorem x_oi {o : Nat} (hs : step k pc ls (.inr (.inr (some o)) :: st) G h = oiS pc ls (.inr (.inr (some o)) :: st) G h) (hw : st.length ≤ 4) : wp d k pc ls (.inr (.inr (some o)) :: st) G h Q = wp d k (pc + 3) ls st G h Q := wp_nx (by
  rw [hs]
  simp only [oiS]
  have hv := vcat_le st
  rw [if_pos (by omega)]
  rfl)
theorem x_newa {kd len : Nat} {r : Int → List (Option Nat)} {n : Int} (hs : step k pc ls (.inl n :: st) G h = newaS kd pc len r ls (.inl n :: st) G h) (hk : 0 ≤ n ∧ n ≤ 1000 ∧ gN G < 900) : wp d k pc ls (.inl n :: st) G h Q = wp d k (pc + len) ls (.inr (.inr (some (gN G))) :: st) (mk G (kd, n.toNat) (r n)) (clr h (gN G)) Q := wp_nx (by
  rw [hs]
  simp only [newaS]
  rw [if_pos hk]
  rfl)
theorem x_new {ci : Nat} (hs : step k pc ls st G h = if gN G < 900 ∧ ci < 4 then nx (pc + 3) ls (.inr (.inr (some (gN G))) :: st) (mk G (4 + ci, fN ci) (List.replicate (fN ci) none)) (clr h (gN G)) else none) (hc : ci < 4) (hk : gN G < 900) : wp d k pc ls st G h Q = wp d k (pc + 3) ls (.inr (.inr (some (gN G))) :: st) (mk G (4 + ci, fN ci) (List.replicate (fN ci) none)) (clr h (gN G)) Q := wp_nx (by
  rw [hs, if_pos ⟨hk, hc⟩]
  rfl)
end
