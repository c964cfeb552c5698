/-! 27: a toy and its row -/
def srcF (m : Int) (c : Nat) : Nat := if m = 0 then ([7, 0, 1, 2, 3, 4, 5, 6, 8, 9, 10, 11, 12, 13] : List Nat).getD c 0 else if m = 1 then ([1, 2, 3, 4, 5, 6, 7, 0, 8, 9, 10, 11, 12, 13] : List Nat).getD c 0 else if m = 2 then ([13, 1, 2, 3, 10, 5, 6, 7, 0, 8, 9, 4, 11, 12] : List Nat).getD c 0 else ([8, 1, 2, 3, 11, 5, 6, 7, 9, 10, 4, 12, 13, 0] : List Nat).getD c 0
theorem c14 {c : Nat} (h : c < 14) : c = 0 ∨ c = 1 ∨ c = 2 ∨ c = 3 ∨ c = 4 ∨ c = 5 ∨ c = 6 ∨ c = 7 ∨ c = 8 ∨ c = 9 ∨ c = 10 ∨ c = 11 ∨ c = 12 ∨ c = 13 := by omega
theorem m4 {m : Int} (h : 0 ≤ m ∧ m < 4) : m = 0 ∨ m = 1 ∨ m = 2 ∨ m = 3 := by omega
theorem srcF_lt {m : Int} {c : Nat} (hm : 0 ≤ m ∧ m < 4) (hc : c < 14) : srcF m c < 14 := by
  rcases m4 hm with rfl | rfl | rfl | rfl <;> rcases c14 hc with rfl | rfl | rfl | rfl | rfl | rfl | rfl | rfl | rfl | rfl | rfl | rfl | rfl | rfl <;> decide
theorem srcF_inj {m : Int} (hm : 0 ≤ m ∧ m < 4) : ∀ c, c < 14 → ∀ e, e < 14 → srcF m c = srcF m e → c = e := by
  rcases m4 hm with rfl | rfl | rfl | rfl <;> decide
/-- the move that takes a move back -/
def opM (m : Int) : Int := if m = 0 then 1 else if m = 1 then 0 else if m = 2 then 3 else 2
theorem opM_ok {m : Int} (hm : 0 ≤ m ∧ m < 4) : (0 ≤ opM m ∧ opM m < 4) ∧ (opM m < 2 ↔ m < 2) := by
  rcases m4 hm with rfl | rfl | rfl | rfl <;> decide
theorem srcF_op {m : Int} (hm : 0 ≤ m ∧ m < 4) : ∀ c, c < 14 → srcF m (srcF (opM m) c) = c := by
  rcases m4 hm with rfl | rfl | rfl | rfl <;> decide
/-- how often a bead lies in ring 1 -/
def inc (f : TF) (i : Int) : Int := (if f 69 = i then 1 else 0) + (if f 77 = i then 1 else 0) + (if f 78 = i then 1 else 0) + (if f 79 = i then 1 else 0) + (if f 73 = i then 1 else 0) + (if f 80 = i then 1 else 0) + (if f 81 = i then 1 else 0) + (if f 82 = i then 1 else 0)
theorem idx83 {x : Int} {i : Nat} (hx : 0 ≤ x) : (83 + i = (83 + x).toNat) = (x = (i : Int)) := propext (by omega)
set_option maxHeartbeats 4000000 in
theorem mvF_lie {f : TF} {m : Int} {c : Nat} (hm : 0 ≤ m ∧ m < 4) (hc : c < 14) (hf : lieOk f) : mvF f m (69 + c) = f (69 + srcF m c) := by
  have hl := lie14 hf
  unfold mvF
  rcases m4 hm with rfl | rfl | rfl | rfl <;> rcases c14 hc with rfl | rfl | rfl | rfl | rfl | rfl | rfl | rfl | rfl | rfl | rfl | rfl | rfl | rfl <;> simp (disch := omega) only [putR_s, putR_n, bmpR_n, Int.reduceAdd, Int.reduceSub, Int.reduceMul, Int.reduceDiv, Int.reduceMod, Int.reduceNeg, Int.reduceToNat, Int.reduceLT, Int.reduceLE, Int.reduceEq, Nat.reduceAdd, Nat.reduceMul, Nat.reduceEqDiff, reduceIte, or_true, true_or, or_false, false_or, or_self, and_true, true_and, and_false, false_and, not_true_eq_false, not_false_eq_true, ne_eq] <;> rfl
theorem mvF_lo {f : TF} {m : Int} {s : Nat} (hm : 0 ≤ m ∧ m < 4) (hs : s < 69) (hf : lieOk f) : mvF f m s = f s := by
  have hl := lie14 hf
  unfold mvF
  rcases m4 hm with rfl | rfl | rfl | rfl <;> simp (disch := omega) only [putR_n, bmpR_n, Int.reduceAdd, Int.reduceSub, Int.reduceMul, Int.reduceDiv, Int.reduceMod, Int.reduceNeg, Int.reduceToNat, Int.reduceLT, Int.reduceLE, Int.reduceEq, Nat.reduceAdd, Nat.reduceMul, Nat.reduceEqDiff, reduceIte, or_true, true_or, or_false, false_or, or_self, and_true, true_and, and_false, false_and, not_true_eq_false, not_false_eq_true, ne_eq]
theorem mvF_97 {f : TF} {m : Int} (hm : 0 ≤ m ∧ m < 4) : mvF f m 97 = f 97 + 1 := by
  unfold mvF
  rcases m4 hm with rfl | rfl | rfl | rfl <;> simp (disch := omega) only [putR_s, Int.reduceAdd, Int.reduceSub, Int.reduceMul, Int.reduceDiv, Int.reduceMod, Int.reduceNeg, Int.reduceToNat, Int.reduceLT, Int.reduceLE, Int.reduceEq, Nat.reduceAdd, Nat.reduceMul, Nat.reduceEqDiff, reduceIte, or_true, true_or, or_false, false_or, or_self, and_true, true_and, and_false, false_and, not_true_eq_false, not_false_eq_true, ne_eq]
theorem mvF_brn {f : TF} {m : Int} {i : Nat} (hm : 0 ≤ m ∧ m < 4) (hi : i < 14) (hf : lieOk f) : mvF f m (83 + i) = f (83 + i) + if m < 2 then 0 else inc f i := by
  have hl := lie14 hf
  unfold mvF
  rcases m4 hm with rfl | rfl | rfl | rfl <;> simp (disch := omega) only [putR_n, bmpR, idx83, inc, Int.add_assoc, Int.add_zero, Int.reduceAdd, Int.reduceSub, Int.reduceMul, Int.reduceDiv, Int.reduceMod, Int.reduceNeg, Int.reduceToNat, Int.reduceLT, Int.reduceLE, Int.reduceEq, Nat.reduceAdd, Nat.reduceMul, Nat.reduceEqDiff, reduceIte, or_true, true_or, or_false, false_or, or_self, and_true, true_and, and_false, false_and, not_true_eq_false, not_false_eq_true, ne_eq]
theorem mvF_ok {f : TF} {m : Int} (hm : 0 ≤ m ∧ m < 4) (hf : lieOk f) : lieOk (mvF f m) := by
  refine ⟨fun c hc => ?_, fun c hc e he q => ?_⟩
  · rw [mvF_lie hm hc hf]
    exact hf.1 _ (srcF_lt hm hc)
  · rw [mvF_lie hm hc hf, mvF_lie hm he hf] at q
    exact srcF_inj hm c hc e he (hf.2 _ (srcF_lt hm hc) _ (srcF_lt hm he) q)
/-- a row of beads: each cell has one, no two the same -/
def permR (q : TF) : Prop := (∀ c, c < 14 → 0 ≤ q c ∧ q c < 14) ∧ ∀ c, c < 14 → ∀ e, e < 14 → q c = q e → c = e
theorem perm14 {q : TF} (hf : permR q) : (0 ≤ q 0 ∧ q 0 < 14) ∧ (0 ≤ q 1 ∧ q 1 < 14) ∧ (0 ≤ q 2 ∧ q 2 < 14) ∧ (0 ≤ q 3 ∧ q 3 < 14) ∧ (0 ≤ q 4 ∧ q 4 < 14) ∧ (0 ≤ q 5 ∧ q 5 < 14) ∧ (0 ≤ q 6 ∧ q 6 < 14) ∧ (0 ≤ q 7 ∧ q 7 < 14) ∧ (0 ≤ q 8 ∧ q 8 < 14) ∧ (0 ≤ q 9 ∧ q 9 < 14) ∧ (0 ≤ q 10 ∧ q 10 < 14) ∧ (0 ≤ q 11 ∧ q 11 < 14) ∧ (0 ≤ q 12 ∧ q 12 < 14) ∧ (0 ≤ q 13 ∧ q 13 < 14) := ⟨hf.1 0 (by decide), hf.1 1 (by decide), hf.1 2 (by decide), hf.1 3 (by decide), hf.1 4 (by decide), hf.1 5 (by decide), hf.1 6 (by decide), hf.1 7 (by decide), hf.1 8 (by decide), hf.1 9 (by decide), hf.1 10 (by decide), hf.1 11 (by decide), hf.1 12 (by decide), hf.1 13 (by decide)⟩
set_option maxHeartbeats 4000000 in
theorem shH_at {q : TF} {m : Int} {c : Nat} (hm : 0 ≤ m ∧ m < 4) (hc : c < 14) : shH q m c = q (srcF m c) := by
  unfold shH
  rcases m4 hm with rfl | rfl | rfl | rfl <;> rcases c14 hc with rfl | rfl | rfl | rfl | rfl | rfl | rfl | rfl | rfl | rfl | rfl | rfl | rfl | rfl <;> simp (disch := omega) only [putR_s, putR_n, Int.reduceAdd, Int.reduceSub, Int.reduceMul, Int.reduceDiv, Int.reduceMod, Int.reduceNeg, Int.reduceToNat, Int.reduceLT, Int.reduceLE, Int.reduceEq, Nat.reduceAdd, Nat.reduceMul, Nat.reduceEqDiff, reduceIte, or_true, true_or, or_false, false_or, or_self, and_true, true_and, and_false, false_and, not_true_eq_false, not_false_eq_true, ne_eq] <;> rfl
set_option maxHeartbeats 4000000 in
theorem shP_at {p q : TF} {m : Int} {c : Nat} (hm : 0 ≤ m ∧ m < 4) (hc : c < 14) (hq : permR q) (hp : ∀ c, c < 14 → p (q c).toNat = c) : shP p q m (q (srcF m c)).toNat = c := by
  have hqe : ∀ i j, i < 14 ∧ j < 14 → ((q i).toNat = (q j).toNat) = (i = j) := fun i j h => propext ⟨fun e => hq.2 i h.1 j h.2 (by have := hq.1 i h.1; have := hq.1 j h.2; omega), fun e => by rw [e]⟩
  have hpc := hp c hc
  unfold shP
  rcases m4 hm with rfl | rfl | rfl | rfl <;> rcases c14 hc with rfl | rfl | rfl | rfl | rfl | rfl | rfl | rfl | rfl | rfl | rfl | rfl | rfl | rfl <;> simp (disch := omega) only [srcF, List.getD_cons_zero, List.getD_cons_succ, putR, hqe, hp, Int.reduceAdd, Int.reduceSub, Int.reduceMul, Int.reduceDiv, Int.reduceMod, Int.reduceNeg, Int.reduceToNat, Int.reduceLT, Int.reduceLE, Int.reduceEq, Nat.reduceAdd, Nat.reduceMul, Nat.reduceEqDiff, reduceIte, or_true, true_or, or_false, false_or, or_self, and_true, true_and, and_false, false_and, not_true_eq_false, not_false_eq_true, ne_eq] <;> first | rfl | exact hpc
theorem idxq {x : Int} {i : Nat} (hx : 0 ≤ x) : (i = x.toNat) = (x = (i : Int)) := propext (by omega)
def incQ (q : TF) (i v : Int) : Int := (if q 0 = i then v else 0) + (if q 8 = i then v else 0) + (if q 9 = i then v else 0) + (if q 10 = i then v else 0) + (if q 4 = i then v else 0) + (if q 11 = i then v else 0) + (if q 12 = i then v else 0) + (if q 13 = i then v else 0)
theorem brB_at {b q : TF} {v : Int} {i : Nat} (hq : permR q) : brB b q v i = b i + incQ q i v := by
  have hl := perm14 hq
  simp (disch := omega) only [brB, bmpR, idxq, incQ, Int.add_assoc]
