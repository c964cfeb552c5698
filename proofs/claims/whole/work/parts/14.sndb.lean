/-! 14: rows: the machine follows one instruction of the reading -/
section
variable {p : Program} {l : Launch} {e : Env} {R : Room} {s : State} {m : MethodId} {args : Array Value} {below : List Frame} {meth : Method} {c : Code} {D : va_G} {cs : CS} {ba : BA} {n0 z0 : Nat} {Q : State → Prop} {k pc : Nat} {ls : LC} {st : List AV} {G : AG} {h : AH}

theorem i8_ok {n : Int} (h : -128 ≤ n ∧ n < 128) : (Int8.ofInt n).toInt32 = Int32.ofInt n := by
  apply Int32.toInt_inj.mp
  rw [Int8.toInt_toInt32, Int8.toInt_ofInt_of_le (by omega) (by omega), Int32.toInt_ofInt_of_le (by omega) (by omega)]
theorem i16_ok {n : Int} (h : -32768 ≤ n ∧ n < 32768) : (Int16.ofInt n).toInt32 = Int32.ofInt n := by
  apply Int32.toInt_inj.mp
  rw [Int16.toInt_toInt32, Int16.toInt_ofInt_of_le (by omega) (by omega), Int32.toInt_ofInt_of_le (by omega) (by omega)]
theorem i2l_ok {n : Int} (h : -2147483648 ≤ n ∧ n < 2147483648) : (Int32.ofInt n).toInt64 = Int64.ofInt n := by
  apply Int64.toInt_inj.mp
  rw [Int32.toInt_toInt64, Int32.toInt_ofInt_of_le (by omega) (by omega), Int64.toInt_ofInt_of_le (by omega) (by omega)]
theorem i2b_ok (n : Int) : (Int32.ofInt n).toInt8.toInt32 = Int32.ofInt (n.bmod 256) := by
  have hb : -128 ≤ n.bmod 256 ∧ n.bmod 256 < 128 := ⟨by have := Int.le_bmod (x := n) (m := 256) (by decide); omega, by have := Int.bmod_lt (x := n) (m := 256) (by decide); omega⟩
  apply Int32.toInt_inj.mp
  rw [Int32.toInt8_ofInt, Int8.toInt_toInt32, Int8.toInt_ofInt, Int32.toInt_ofInt_of_le (by omega) (by omega)]
theorem getD_lt {i : Nat} {v : AV} (h : ls.getD i none = some v) : i < ls.length := by
  rcases Nat.lt_or_ge i ls.length with q | q
  · exact q
  · rw [List.getD_eq_getElem?_getD, List.getElem?_eq_none q] at h
    cases h
theorem s_iconst {n : Int} (C : CT k p s m args meth c D cs ba n0) (hd : decode (P_b k) pc = .ok (.iconst n, 1)) (kk : GO p l e R s m args below meth c D cs ba n0 z0 Q (pc + 1) ls (.inl n :: st) G h) : GO p l e R s m args below meth c D cs ba n0 z0 Q pc ls st G h := by
  obtain ⟨hx, hb, hr, hml, hown, hts, hlk, hnm, hN, hK, hs0⟩ := C
  intro arr H locs hL hP hS hF hgg hn hz
  exact lv_iconst hx hb hd rfl (kk arr H locs hL hP hS hF hgg hn hz)
theorem s_bipush {n : Int} (C : CT k p s m args meth c D cs ba n0) (hd : decode (P_b k) pc = .ok (.bipush n, 2)) (hv : -128 ≤ n ∧ n < 128) (kk : GO p l e R s m args below meth c D cs ba n0 z0 Q (pc + 2) ls (.inl n :: st) G h) : GO p l e R s m args below meth c D cs ba n0 z0 Q pc ls st G h := by
  obtain ⟨hx, hb, hr, hml, hown, hts, hlk, hnm, hN, hK, hs0⟩ := C
  intro arr H locs hL hP hS hF hgg hn hz
  exact lv_bipush hx hb hd (i8_ok hv) (kk arr H locs hL hP hS hF hgg hn hz)
theorem s_sipush {n : Int} (C : CT k p s m args meth c D cs ba n0) (hd : decode (P_b k) pc = .ok (.sipush n, 3)) (hv : -32768 ≤ n ∧ n < 32768) (kk : GO p l e R s m args below meth c D cs ba n0 z0 Q (pc + 3) ls (.inl n :: st) G h) : GO p l e R s m args below meth c D cs ba n0 z0 Q pc ls st G h := by
  obtain ⟨hx, hb, hr, hml, hown, hts, hlk, hnm, hN, hK, hs0⟩ := C
  intro arr H locs hL hP hS hF hgg hn hz
  exact lv_sipush hx hb hd (i16_ok hv) (kk arr H locs hL hP hS hF hgg hn hz)
theorem s_lconst {n : Fin 2} (C : CT k p s m args meth c D cs ba n0) (hd : decode (P_b k) pc = .ok (.lconst n, 1)) (kk : GO p l e R s m args below meth c D cs ba n0 z0 Q (pc + 1) ls (.inr (.inl ((n : Nat) : Int)) :: st) G h) : GO p l e R s m args below meth c D cs ba n0 z0 Q pc ls st G h := by
  obtain ⟨hx, hb, hr, hml, hown, hts, hlk, hnm, hN, hK, hs0⟩ := C
  intro arr H locs hL hP hS hF hgg hn hz
  exact lv_lconst hx hb hd Int64.ofInt_eq_ofNat.symm (kk arr H locs hL hP hS hF hgg hn hz)
theorem s_ldc {n : Int} {i : Nat} (C : CT k p s m args meth c D cs ba n0) (hd : decode (P_b k) pc = .ok (.ldc i, 2)) (hw : Cond.constant (P_o k) i (Int32.ofInt n) ∈ AWS) (kk : GO p l e R s m args below meth c D cs ba n0 z0 Q (pc + 2) ls (.inl n :: st) G h) : GO p l e R s m args below meth c D cs ba n0 z0 Q pc ls st G h := by
  obtain ⟨hx, hb, hr, hml, hown, hts, hlk, hnm, hN, hK, hs0⟩ := C
  intro arr H locs hL hP hS hF hgg hn hz
  exact lv_ldc hx hb hown (hts _ hw) hd (kk arr H locs hL hP hS hF hgg hn hz)
theorem s_ldc2 {n : Int} {i : Nat} (C : CT k p s m args meth c D cs ba n0) (hd : decode (P_b k) pc = .ok (.ldc2_w i, 3)) (hw : Cond.constantLong (P_o k) i (Int64.ofInt n) ∈ AWS) (kk : GO p l e R s m args below meth c D cs ba n0 z0 Q (pc + 3) ls (.inr (.inl n) :: st) G h) : GO p l e R s m args below meth c D cs ba n0 z0 Q pc ls st G h := by
  obtain ⟨hx, hb, hr, hml, hown, hts, hlk, hnm, hN, hK, hs0⟩ := C
  intro arr H locs hL hP hS hF hgg hn hz
  exact lv_ldc2 hx hb hown (hts _ hw) hd (kk arr H locs hL hP hS hF hgg hn hz)
theorem s_iload_n {i : Fin 4} {x : Int} (C : CT k p s m args meth c D cs ba n0) (hd : decode (P_b k) pc = .ok (.iload_n i, 1)) (hg0 : ls.getD (i : Nat) none = some (.inl x)) (kk : GO p l e R s m args below meth c D cs ba n0 z0 Q (pc + 1) ls (.inl x :: st) G h) : GO p l e R s m args below meth c D cs ba n0 z0 Q pc ls st G h := by
  obtain ⟨hx, hb, hr, hml, hown, hts, hlk, hnm, hN, hK, hs0⟩ := C
  intro arr H locs hL hP hS hF hgg hn hz
  exact lv_iload_n hx hb hd rfl (hL.2.2 _ _ hg0) (kk arr H locs hL hP hS hF hgg hn hz)
theorem s_iload {i : Nat} {x : Int} (C : CT k p s m args meth c D cs ba n0) (hd : decode (P_b k) pc = .ok (.iload i, 2)) (hg0 : ls.getD i none = some (.inl x)) (kk : GO p l e R s m args below meth c D cs ba n0 z0 Q (pc + 2) ls (.inl x :: st) G h) : GO p l e R s m args below meth c D cs ba n0 z0 Q pc ls st G h := by
  obtain ⟨hx, hb, hr, hml, hown, hts, hlk, hnm, hN, hK, hs0⟩ := C
  intro arr H locs hL hP hS hF hgg hn hz
  exact lv_iload hx hb hd (hL.2.2 _ _ hg0) (kk arr H locs hL hP hS hF hgg hn hz)
theorem s_lload_n {i : Fin 4} {x : Int} (C : CT k p s m args meth c D cs ba n0) (hd : decode (P_b k) pc = .ok (.lload_n i, 1)) (hg0 : ls.getD (i : Nat) none = some (.inr (.inl x))) (kk : GO p l e R s m args below meth c D cs ba n0 z0 Q (pc + 1) ls (.inr (.inl x) :: st) G h) : GO p l e R s m args below meth c D cs ba n0 z0 Q pc ls st G h := by
  obtain ⟨hx, hb, hr, hml, hown, hts, hlk, hnm, hN, hK, hs0⟩ := C
  intro arr H locs hL hP hS hF hgg hn hz
  exact lv_lload_n hx hb hd rfl (hL.2.2 _ _ hg0) (kk arr H locs hL hP hS hF hgg hn hz)
theorem s_lload {i : Nat} {x : Int} (C : CT k p s m args meth c D cs ba n0) (hd : decode (P_b k) pc = .ok (.lload i, 2)) (hg0 : ls.getD i none = some (.inr (.inl x))) (kk : GO p l e R s m args below meth c D cs ba n0 z0 Q (pc + 2) ls (.inr (.inl x) :: st) G h) : GO p l e R s m args below meth c D cs ba n0 z0 Q pc ls st G h := by
  obtain ⟨hx, hb, hr, hml, hown, hts, hlk, hnm, hN, hK, hs0⟩ := C
  intro arr H locs hL hP hS hF hgg hn hz
  exact lv_lload hx hb hd (hL.2.2 _ _ hg0) (kk arr H locs hL hP hS hF hgg hn hz)
theorem s_aload_n {i : Fin 4} {x : Nat} (C : CT k p s m args meth c D cs ba n0) (hd : decode (P_b k) pc = .ok (.aload_n i, 1)) (hg0 : ls.getD (i : Nat) none = some (.inr (.inr (some x)))) (kk : GO p l e R s m args below meth c D cs ba n0 z0 Q (pc + 1) ls (.inr (.inr (some x)) :: st) G h) : GO p l e R s m args below meth c D cs ba n0 z0 Q pc ls st G h := by
  obtain ⟨hx, hb, hr, hml, hown, hts, hlk, hnm, hN, hK, hs0⟩ := C
  intro arr H locs hL hP hS hF hgg hn hz
  exact lv_aload_n hx hb hd rfl (hL.2.2 _ _ hg0) (kk arr H locs hL hP hS hF hgg hn hz)
theorem s_aload {i : Nat} {x : Nat} (C : CT k p s m args meth c D cs ba n0) (hd : decode (P_b k) pc = .ok (.aload i, 2)) (hg0 : ls.getD i none = some (.inr (.inr (some x)))) (kk : GO p l e R s m args below meth c D cs ba n0 z0 Q (pc + 2) ls (.inr (.inr (some x)) :: st) G h) : GO p l e R s m args below meth c D cs ba n0 z0 Q pc ls st G h := by
  obtain ⟨hx, hb, hr, hml, hown, hts, hlk, hnm, hN, hK, hs0⟩ := C
  intro arr H locs hL hP hS hF hgg hn hz
  exact lv_aload hx hb hd (hL.2.2 _ _ hg0) (kk arr H locs hL hP hS hF hgg hn hz)
theorem s_istore_n {i : Fin 4} {x : Int} (C : CT k p s m args meth c D cs ba n0) (hd : decode (P_b k) pc = .ok (.istore_n i, 1)) (hi : (i : Nat) < ls.length) (kk : GO p l e R s m args below meth c D cs ba n0 z0 Q (pc + 1) (st1 ls (i : Nat) (.inl x)) st G h) : GO p l e R s m args below meth c D cs ba n0 z0 Q pc ls (.inl x :: st) G h := by
  obtain ⟨hx, hb, hr, hml, hown, hts, hlk, hnm, hN, hK, hs0⟩ := C
  intro arr H locs hL hP hS hF hgg hn hz
  exact lv_istore_n hx hb hd rfl (LV_has hL) hi rfl (fun a2 h2 => kk a2 H locs (LV_st1 hi h2) hP hS hF hgg hn hz)
theorem s_istore {i : Nat} {x : Int} (C : CT k p s m args meth c D cs ba n0) (hd : decode (P_b k) pc = .ok (.istore i, 2)) (hi : i < ls.length) (kk : GO p l e R s m args below meth c D cs ba n0 z0 Q (pc + 2) (st1 ls i (.inl x)) st G h) : GO p l e R s m args below meth c D cs ba n0 z0 Q pc ls (.inl x :: st) G h := by
  obtain ⟨hx, hb, hr, hml, hown, hts, hlk, hnm, hN, hK, hs0⟩ := C
  intro arr H locs hL hP hS hF hgg hn hz
  exact lv_istore hx hb hd (LV_has hL) hi rfl (fun a2 h2 => kk a2 H locs (LV_st1 hi h2) hP hS hF hgg hn hz)
theorem s_lstore_n {i : Fin 4} {x : Int} (C : CT k p s m args meth c D cs ba n0) (hd : decode (P_b k) pc = .ok (.lstore_n i, 1)) (hi : (i : Nat) + 1 < ls.length) (kk : GO p l e R s m args below meth c D cs ba n0 z0 Q (pc + 1) (st2 ls (i : Nat) (.inr (.inl x))) st G h) : GO p l e R s m args below meth c D cs ba n0 z0 Q pc ls (.inr (.inl x) :: st) G h := by
  obtain ⟨hx, hb, hr, hml, hown, hts, hlk, hnm, hN, hK, hs0⟩ := C
  intro arr H locs hL hP hS hF hgg hn hz
  exact lv_lstore_n hx hb hd rfl (LV_has hL) hi rfl (fun a2 h2 => kk a2 H locs (LV_st2 hi h2) hP hS hF hgg hn hz)
theorem s_lstore {i : Nat} {x : Int} (C : CT k p s m args meth c D cs ba n0) (hd : decode (P_b k) pc = .ok (.lstore i, 2)) (hi : i + 1 < ls.length) (kk : GO p l e R s m args below meth c D cs ba n0 z0 Q (pc + 2) (st2 ls i (.inr (.inl x))) st G h) : GO p l e R s m args below meth c D cs ba n0 z0 Q pc ls (.inr (.inl x) :: st) G h := by
  obtain ⟨hx, hb, hr, hml, hown, hts, hlk, hnm, hN, hK, hs0⟩ := C
  intro arr H locs hL hP hS hF hgg hn hz
  exact lv_lstore hx hb hd (LV_has hL) hi rfl (fun a2 h2 => kk a2 H locs (LV_st2 hi h2) hP hS hF hgg hn hz)
theorem s_astore_n {i : Fin 4} {x : Nat} (C : CT k p s m args meth c D cs ba n0) (hd : decode (P_b k) pc = .ok (.astore_n i, 1)) (hi : (i : Nat) < ls.length) (kk : GO p l e R s m args below meth c D cs ba n0 z0 Q (pc + 1) (st1 ls (i : Nat) (.inr (.inr (some x)))) st G h) : GO p l e R s m args below meth c D cs ba n0 z0 Q pc ls (.inr (.inr (some x)) :: st) G h := by
  obtain ⟨hx, hb, hr, hml, hown, hts, hlk, hnm, hN, hK, hs0⟩ := C
  intro arr H locs hL hP hS hF hgg hn hz
  exact lv_astore_n hx hb hd rfl (LV_has hL) hi rfl (fun a2 h2 => kk a2 H locs (LV_st1 hi h2) hP hS hF hgg hn hz)
theorem s_astore {i : Nat} {x : Nat} (C : CT k p s m args meth c D cs ba n0) (hd : decode (P_b k) pc = .ok (.astore i, 2)) (hi : i < ls.length) (kk : GO p l e R s m args below meth c D cs ba n0 z0 Q (pc + 2) (st1 ls i (.inr (.inr (some x)))) st G h) : GO p l e R s m args below meth c D cs ba n0 z0 Q pc ls (.inr (.inr (some x)) :: st) G h := by
  obtain ⟨hx, hb, hr, hml, hown, hts, hlk, hnm, hN, hK, hs0⟩ := C
  intro arr H locs hL hP hS hF hgg hn hz
  exact lv_astore hx hb hd (LV_has hL) hi rfl (fun a2 h2 => kk a2 H locs (LV_st1 hi h2) hP hS hF hgg hn hz)
theorem s_iinc {i : Nat} {n x : Int} (C : CT k p s m args meth c D cs ba n0) (hd : decode (P_b k) pc = .ok (.iinc i n, 3)) (hg0 : ls.getD i none = some (.inl x)) (kk : GO p l e R s m args below meth c D cs ba n0 z0 Q (pc + 3) (st1 ls i (.inl (x + n))) st G h) : GO p l e R s m args below meth c D cs ba n0 z0 Q pc ls st G h := by
  obtain ⟨hx, hb, hr, hml, hown, hts, hlk, hnm, hN, hK, hs0⟩ := C
  intro arr H locs hL hP hS hF hgg hn hz
  obtain ⟨q, hq⟩ := List.getElem?_of_mem (mem_lvl (ba := ba).mpr ⟨_, hg0, rfl⟩)
  exact lv_iinc (v := Int32.ofInt (x + n)) hx hb hd (LV_has hL) hq (by rw [Int32.ofInt_add]) (getD_lt hg0) rfl (fun a2 h2 => kk a2 H locs (LV_st1 (v := .inl (x + n)) (getD_lt hg0) h2) hP hS hF hgg hn hz)
theorem s_iadd {x y : Int} (C : CT k p s m args meth c D cs ba n0) (hd : decode (P_b k) pc = .ok (.iadd, 1)) (kk : GO p l e R s m args below meth c D cs ba n0 z0 Q (pc + 1) ls (.inl (x + y) :: st) G h) : GO p l e R s m args below meth c D cs ba n0 z0 Q pc ls (.inl y :: .inl x :: st) G h := by
  obtain ⟨hx, hb, hr, hml, hown, hts, hlk, hnm, hN, hK, hs0⟩ := C
  intro arr H locs hL hP hS hF hgg hn hz
  have e0 : Int32.ofInt (x + y) = Int32.ofInt x + Int32.ofInt y := Int32.ofInt_add x y
  refine lv_iadd hx hb hd ?_
  rw [← e0]
  exact kk arr H locs hL hP hS hF hgg hn hz
theorem s_isub {x y : Int} (C : CT k p s m args meth c D cs ba n0) (hd : decode (P_b k) pc = .ok (.isub, 1)) (kk : GO p l e R s m args below meth c D cs ba n0 z0 Q (pc + 1) ls (.inl (x - y) :: st) G h) : GO p l e R s m args below meth c D cs ba n0 z0 Q pc ls (.inl y :: .inl x :: st) G h := by
  obtain ⟨hx, hb, hr, hml, hown, hts, hlk, hnm, hN, hK, hs0⟩ := C
  intro arr H locs hL hP hS hF hgg hn hz
  have e0 : Int32.ofInt (x - y) = Int32.ofInt x - Int32.ofInt y := Int32.ofInt_sub x y
  refine lv_isub hx hb hd ?_
  rw [← e0]
  exact kk arr H locs hL hP hS hF hgg hn hz
theorem s_imul {x y : Int} (C : CT k p s m args meth c D cs ba n0) (hd : decode (P_b k) pc = .ok (.imul, 1)) (kk : GO p l e R s m args below meth c D cs ba n0 z0 Q (pc + 1) ls (.inl (x * y) :: st) G h) : GO p l e R s m args below meth c D cs ba n0 z0 Q pc ls (.inl y :: .inl x :: st) G h := by
  obtain ⟨hx, hb, hr, hml, hown, hts, hlk, hnm, hN, hK, hs0⟩ := C
  intro arr H locs hL hP hS hF hgg hn hz
  have e0 : Int32.ofInt (x * y) = Int32.ofInt x * Int32.ofInt y := Int32.ofInt_mul x y
  refine lv_imul hx hb hd ?_
  rw [← e0]
  exact kk arr H locs hL hP hS hF hgg hn hz
theorem s_iand {x y : Int} (C : CT k p s m args meth c D cs ba n0) (hd : decode (P_b k) pc = .ok (.iand, 1)) (kk : GO p l e R s m args below meth c D cs ba n0 z0 Q (pc + 1) ls (.inl (bAnd x y) :: st) G h) : GO p l e R s m args below meth c D cs ba n0 z0 Q pc ls (.inl y :: .inl x :: st) G h := by
  obtain ⟨hx, hb, hr, hml, hown, hts, hlk, hnm, hN, hK, hs0⟩ := C
  intro arr H locs hL hP hS hF hgg hn hz
  have e0 : Int32.ofInt (bAnd x y) = Int32.ofInt x &&& Int32.ofInt y := (Int32.ofInt_toInt _)
  refine lv_iand hx hb hd ?_
  rw [← e0]
  exact kk arr H locs hL hP hS hF hgg hn hz
theorem s_ior {x y : Int} (C : CT k p s m args meth c D cs ba n0) (hd : decode (P_b k) pc = .ok (.ior, 1)) (kk : GO p l e R s m args below meth c D cs ba n0 z0 Q (pc + 1) ls (.inl (bOr x y) :: st) G h) : GO p l e R s m args below meth c D cs ba n0 z0 Q pc ls (.inl y :: .inl x :: st) G h := by
  obtain ⟨hx, hb, hr, hml, hown, hts, hlk, hnm, hN, hK, hs0⟩ := C
  intro arr H locs hL hP hS hF hgg hn hz
  have e0 : Int32.ofInt (bOr x y) = Int32.ofInt x ||| Int32.ofInt y := (Int32.ofInt_toInt _)
  refine lv_ior hx hb hd ?_
  rw [← e0]
  exact kk arr H locs hL hP hS hF hgg hn hz
theorem s_ixor {x y : Int} (C : CT k p s m args meth c D cs ba n0) (hd : decode (P_b k) pc = .ok (.ixor, 1)) (kk : GO p l e R s m args below meth c D cs ba n0 z0 Q (pc + 1) ls (.inl (bXor x y) :: st) G h) : GO p l e R s m args below meth c D cs ba n0 z0 Q pc ls (.inl y :: .inl x :: st) G h := by
  obtain ⟨hx, hb, hr, hml, hown, hts, hlk, hnm, hN, hK, hs0⟩ := C
  intro arr H locs hL hP hS hF hgg hn hz
  have e0 : Int32.ofInt (bXor x y) = Int32.ofInt x ^^^ Int32.ofInt y := (Int32.ofInt_toInt _)
  refine lv_ixor hx hb hd ?_
  rw [← e0]
  exact kk arr H locs hL hP hS hF hgg hn hz
theorem s_ishl {x y : Int} (C : CT k p s m args meth c D cs ba n0) (hd : decode (P_b k) pc = .ok (.ishl, 1)) (kk : GO p l e R s m args below meth c D cs ba n0 z0 Q (pc + 1) ls (.inl (bShl x y) :: st) G h) : GO p l e R s m args below meth c D cs ba n0 z0 Q pc ls (.inl y :: .inl x :: st) G h := by
  obtain ⟨hx, hb, hr, hml, hown, hts, hlk, hnm, hN, hK, hs0⟩ := C
  intro arr H locs hL hP hS hF hgg hn hz
  have e0 : Int32.ofInt (bShl x y) = Int32.ofInt x <<< (Int32.ofInt y &&& 31) := (Int32.ofInt_toInt _)
  refine lv_ishl hx hb hd ?_
  rw [← e0]
  exact kk arr H locs hL hP hS hF hgg hn hz
theorem s_ishr {x y : Int} (C : CT k p s m args meth c D cs ba n0) (hd : decode (P_b k) pc = .ok (.ishr, 1)) (kk : GO p l e R s m args below meth c D cs ba n0 z0 Q (pc + 1) ls (.inl (bShr x y) :: st) G h) : GO p l e R s m args below meth c D cs ba n0 z0 Q pc ls (.inl y :: .inl x :: st) G h := by
  obtain ⟨hx, hb, hr, hml, hown, hts, hlk, hnm, hN, hK, hs0⟩ := C
  intro arr H locs hL hP hS hF hgg hn hz
  have e0 : Int32.ofInt (bShr x y) = Int32.ofInt x >>> (Int32.ofInt y &&& 31) := (Int32.ofInt_toInt _)
  refine lv_ishr hx hb hd ?_
  rw [← e0]
  exact kk arr H locs hL hP hS hF hgg hn hz
theorem s_ladd {x y : Int} (C : CT k p s m args meth c D cs ba n0) (hd : decode (P_b k) pc = .ok (.ladd, 1)) (kk : GO p l e R s m args below meth c D cs ba n0 z0 Q (pc + 1) ls (.inr (.inl (x + y)) :: st) G h) : GO p l e R s m args below meth c D cs ba n0 z0 Q pc ls (.inr (.inl y) :: .inr (.inl x) :: st) G h := by
  obtain ⟨hx, hb, hr, hml, hown, hts, hlk, hnm, hN, hK, hs0⟩ := C
  intro arr H locs hL hP hS hF hgg hn hz
  have e0 : Int64.ofInt (x + y) = Int64.ofInt x + Int64.ofInt y := Int64.ofInt_add x y
  refine lv_ladd hx hb hd ?_
  rw [← e0]
  exact kk arr H locs hL hP hS hF hgg hn hz
theorem s_lsub {x y : Int} (C : CT k p s m args meth c D cs ba n0) (hd : decode (P_b k) pc = .ok (.lsub, 1)) (kk : GO p l e R s m args below meth c D cs ba n0 z0 Q (pc + 1) ls (.inr (.inl (x - y)) :: st) G h) : GO p l e R s m args below meth c D cs ba n0 z0 Q pc ls (.inr (.inl y) :: .inr (.inl x) :: st) G h := by
  obtain ⟨hx, hb, hr, hml, hown, hts, hlk, hnm, hN, hK, hs0⟩ := C
  intro arr H locs hL hP hS hF hgg hn hz
  have e0 : Int64.ofInt (x - y) = Int64.ofInt x - Int64.ofInt y := Int64.ofInt_sub x y
  refine lv_lsub hx hb hd ?_
  rw [← e0]
  exact kk arr H locs hL hP hS hF hgg hn hz
theorem s_lmul {x y : Int} (C : CT k p s m args meth c D cs ba n0) (hd : decode (P_b k) pc = .ok (.lmul, 1)) (kk : GO p l e R s m args below meth c D cs ba n0 z0 Q (pc + 1) ls (.inr (.inl (x * y)) :: st) G h) : GO p l e R s m args below meth c D cs ba n0 z0 Q pc ls (.inr (.inl y) :: .inr (.inl x) :: st) G h := by
  obtain ⟨hx, hb, hr, hml, hown, hts, hlk, hnm, hN, hK, hs0⟩ := C
  intro arr H locs hL hP hS hF hgg hn hz
  have e0 : Int64.ofInt (x * y) = Int64.ofInt x * Int64.ofInt y := Int64.ofInt_mul x y
  refine lv_lmul hx hb hd ?_
  rw [← e0]
  exact kk arr H locs hL hP hS hF hgg hn hz
theorem s_idiv {x y : Int} (C : CT k p s m args meth c D cs ba n0) (hd : decode (P_b k) pc = .ok (.idiv, 1)) (hv : (-2147483648 ≤ x ∧ x < 2147483648) ∧ 0 < y ∧ y < 2147483648) (kk : GO p l e R s m args below meth c D cs ba n0 z0 Q (pc + 1) ls (.inl (x.tdiv y) :: st) G h) : GO p l e R s m args below meth c D cs ba n0 z0 Q pc ls (.inl y :: .inl x :: st) G h := by
  obtain ⟨hx, hb, hr, hml, hown, hts, hlk, hnm, hN, hK, hs0⟩ := C
  intro arr H locs hL hP hS hF hgg hn hz
  have e0 := i32_div hv.1 hv.2
  refine lv_idiv hx hb hd (i32_ne0 hv.2) ?_
  rw [← e0]
  exact kk arr H locs hL hP hS hF hgg hn hz
theorem s_irem {x y : Int} (C : CT k p s m args meth c D cs ba n0) (hd : decode (P_b k) pc = .ok (.irem, 1)) (hv : (-2147483648 ≤ x ∧ x < 2147483648) ∧ 0 < y ∧ y < 2147483648) (kk : GO p l e R s m args below meth c D cs ba n0 z0 Q (pc + 1) ls (.inl (x.tmod y) :: st) G h) : GO p l e R s m args below meth c D cs ba n0 z0 Q pc ls (.inl y :: .inl x :: st) G h := by
  obtain ⟨hx, hb, hr, hml, hown, hts, hlk, hnm, hN, hK, hs0⟩ := C
  intro arr H locs hL hP hS hF hgg hn hz
  have e0 := i32_rem hv.1 hv.2
  refine lv_irem hx hb hd (i32_ne0 hv.2) ?_
  rw [← e0]
  exact kk arr H locs hL hP hS hF hgg hn hz
theorem s_ldiv {x y : Int} (C : CT k p s m args meth c D cs ba n0) (hd : decode (P_b k) pc = .ok (.ldiv, 1)) (hv : (-9223372036854775808 ≤ x ∧ x < 9223372036854775808) ∧ 0 < y ∧ y < 9223372036854775808) (kk : GO p l e R s m args below meth c D cs ba n0 z0 Q (pc + 1) ls (.inr (.inl (x.tdiv y)) :: st) G h) : GO p l e R s m args below meth c D cs ba n0 z0 Q pc ls (.inr (.inl y) :: .inr (.inl x) :: st) G h := by
  obtain ⟨hx, hb, hr, hml, hown, hts, hlk, hnm, hN, hK, hs0⟩ := C
  intro arr H locs hL hP hS hF hgg hn hz
  have e0 := i64_div hv.1 hv.2
  refine lv_ldiv hx hb hd (i64_ne0 hv.2) ?_
  rw [← e0]
  exact kk arr H locs hL hP hS hF hgg hn hz
theorem s_lrem {x y : Int} (C : CT k p s m args meth c D cs ba n0) (hd : decode (P_b k) pc = .ok (.lrem, 1)) (hv : (-9223372036854775808 ≤ x ∧ x < 9223372036854775808) ∧ 0 < y ∧ y < 9223372036854775808) (kk : GO p l e R s m args below meth c D cs ba n0 z0 Q (pc + 1) ls (.inr (.inl (x.tmod y)) :: st) G h) : GO p l e R s m args below meth c D cs ba n0 z0 Q pc ls (.inr (.inl y) :: .inr (.inl x) :: st) G h := by
  obtain ⟨hx, hb, hr, hml, hown, hts, hlk, hnm, hN, hK, hs0⟩ := C
  intro arr H locs hL hP hS hF hgg hn hz
  have e0 := i64_rem hv.1 hv.2
  refine lv_lrem hx hb hd (i64_ne0 hv.2) ?_
  rw [← e0]
  exact kk arr H locs hL hP hS hF hgg hn hz
theorem s_lneg {x : Int} (C : CT k p s m args meth c D cs ba n0) (hd : decode (P_b k) pc = .ok (.lneg, 1)) (kk : GO p l e R s m args below meth c D cs ba n0 z0 Q (pc + 1) ls (.inr (.inl (-x)) :: st) G h) : GO p l e R s m args below meth c D cs ba n0 z0 Q pc ls (.inr (.inl x) :: st) G h := by
  obtain ⟨hx, hb, hr, hml, hown, hts, hlk, hnm, hN, hK, hs0⟩ := C
  intro arr H locs hL hP hS hF hgg hn hz
  have e0 : Int64.ofInt (-x) = -Int64.ofInt x := Int64.ofInt_neg x
  refine lv_lneg hx hb hd ?_
  rw [← e0]
  exact kk arr H locs hL hP hS hF hgg hn hz
theorem s_lcmp {x y : Int} (C : CT k p s m args meth c D cs ba n0) (hd : decode (P_b k) pc = .ok (.lcmp, 1)) (hv : x = y ∨ ((-9223372036854775808 ≤ x ∧ x < 9223372036854775808) ∧ (-9223372036854775808 ≤ y ∧ y < 9223372036854775808))) (kk : GO p l e R s m args below meth c D cs ba n0 z0 Q (pc + 1) ls (.inl (if x = y then 0 else if y < x then 1 else -1) :: st) G h) : GO p l e R s m args below meth c D cs ba n0 z0 Q pc ls (.inr (.inl y) :: .inr (.inl x) :: st) G h := by
  obtain ⟨hx, hb, hr, hml, hown, hts, hlk, hnm, hN, hK, hs0⟩ := C
  intro arr H locs hL hP hS hF hgg hn hz
  have e0 : lg_cmp (Int64.ofInt x) (Int64.ofInt y) = Int32.ofInt (if x = y then 0 else if y < x then 1 else -1) := by
    unfold lg_cmp
    by_cases q : x = y
    · subst q
      rw [if_neg (by exact Int64.lt_irrefl), if_pos rfl, if_pos rfl]
      rfl
    · obtain ⟨v1, v2⟩ := hv.resolve_left q
      rw [if_neg q]
      by_cases q2 : y < x
      · rw [if_pos q2, if_pos ((i64_lt v2 v1).mpr q2)]
        rfl
      · rw [if_neg q2, if_neg (fun z => q2 ((i64_lt v2 v1).mp z)), if_neg (fun z => q ((i64_eq v1 v2).mp z))]
        rfl
  refine W.lcmp hx hb hd ?_
  rw [e0]
  exact kk arr H locs hL hP hS hF hgg hn hz
theorem s_i2l {x : Int} (C : CT k p s m args meth c D cs ba n0) (hd : decode (P_b k) pc = .ok (.i2l, 1)) (hv : -2147483648 ≤ x ∧ x < 2147483648) (kk : GO p l e R s m args below meth c D cs ba n0 z0 Q (pc + 1) ls (.inr (.inl x) :: st) G h) : GO p l e R s m args below meth c D cs ba n0 z0 Q pc ls (.inl x :: st) G h := by
  obtain ⟨hx, hb, hr, hml, hown, hts, hlk, hnm, hN, hK, hs0⟩ := C
  intro arr H locs hL hP hS hF hgg hn hz
  exact lv_i2l hx hb hd (i2l_ok hv) (kk arr H locs hL hP hS hF hgg hn hz)
theorem s_l2i {x : Int} (C : CT k p s m args meth c D cs ba n0) (hd : decode (P_b k) pc = .ok (.l2i, 1)) (kk : GO p l e R s m args below meth c D cs ba n0 z0 Q (pc + 1) ls (.inl x :: st) G h) : GO p l e R s m args below meth c D cs ba n0 z0 Q pc ls (.inr (.inl x) :: st) G h := by
  obtain ⟨hx, hb, hr, hml, hown, hts, hlk, hnm, hN, hK, hs0⟩ := C
  intro arr H locs hL hP hS hF hgg hn hz
  exact lv_l2i hx hb hd Int64.toInt32_ofInt (kk arr H locs hL hP hS hF hgg hn hz)
theorem s_i2b {x : Int} (C : CT k p s m args meth c D cs ba n0) (hd : decode (P_b k) pc = .ok (.i2b, 1)) (kk : GO p l e R s m args below meth c D cs ba n0 z0 Q (pc + 1) ls (.inl (x.bmod 256) :: st) G h) : GO p l e R s m args below meth c D cs ba n0 z0 Q pc ls (.inl x :: st) G h := by
  obtain ⟨hx, hb, hr, hml, hown, hts, hlk, hnm, hN, hK, hs0⟩ := C
  intro arr H locs hL hP hS hF hgg hn hz
  exact lv_i2b hx hb hd (i2b_ok x) (kk arr H locs hL hP hS hF hgg hn hz)
theorem s_dup {v : AV} (C : CT k p s m args meth c D cs ba n0) (hd : decode (P_b k) pc = .ok (.dup, 1)) (hv : vcat v = 1) (kk : GO p l e R s m args below meth c D cs ba n0 z0 Q (pc + 1) ls (v :: v :: st) G h) : GO p l e R s m args below meth c D cs ba n0 z0 Q pc ls (v :: st) G h := by
  obtain ⟨hx, hb, hr, hml, hown, hts, hlk, hnm, hN, hK, hs0⟩ := C
  intro arr H locs hL hP hS hF hgg hn hz
  exact lv_dup hx hb hd ((cv_cat ba v).trans hv) (kk arr H locs hL hP hS hF hgg hn hz)
theorem s_dup2 {v w : AV} (C : CT k p s m args meth c D cs ba n0) (hd : decode (P_b k) pc = .ok (.dup2, 1)) (hv : vcat v = 1 ∧ vcat w = 1) (kk : GO p l e R s m args below meth c D cs ba n0 z0 Q (pc + 1) ls (v :: w :: v :: w :: st) G h) : GO p l e R s m args below meth c D cs ba n0 z0 Q pc ls (v :: w :: st) G h := by
  obtain ⟨hx, hb, hr, hml, hown, hts, hlk, hnm, hN, hK, hs0⟩ := C
  intro arr H locs hL hP hS hF hgg hn hz
  exact lv_dup2_11 hx hb hd ((cv_cat ba v).trans hv.1) ((cv_cat ba w).trans hv.2) (kk arr H locs hL hP hS hF hgg hn hz)
theorem s_pop {v : AV} (C : CT k p s m args meth c D cs ba n0) (hd : decode (P_b k) pc = .ok (.pop, 1)) (hv : vcat v = 1) (kk : GO p l e R s m args below meth c D cs ba n0 z0 Q (pc + 1) ls st G h) : GO p l e R s m args below meth c D cs ba n0 z0 Q pc ls (v :: st) G h := by
  obtain ⟨hx, hb, hr, hml, hown, hts, hlk, hnm, hN, hK, hs0⟩ := C
  intro arr H locs hL hP hS hF hgg hn hz
  exact lv_pop hx hb hd ((cv_cat ba v).trans hv) (kk arr H locs hL hP hS hF hgg hn hz)
theorem s_goto {off : Int} {tgt : Nat} (C : CT k p s m args meth c D cs ba n0) (hd : decode (P_b k) pc = .ok (.goto off, 3)) (ht : (pc : Int) + off = (tgt : Nat)) (kk : GO p l e R s m args below meth c D cs ba n0 z0 Q tgt ls st G h) : GO p l e R s m args below meth c D cs ba n0 z0 Q pc ls st G h := by
  obtain ⟨hx, hb, hr, hml, hown, hts, hlk, hnm, hN, hK, hs0⟩ := C
  intro arr H locs hL hP hS hF hgg hn hz
  exact lv_goto hx hb hd ht (kk arr H locs hL hP hS hF hgg hn hz)
theorem s_if {cd : Jvm.ClassFile.Cond} {off x : Int} {tgt : Nat} (C : CT k p s m args meth c D cs ba n0) (hd : decode (P_b k) pc = .ok (.ifCond cd off, 3)) (ht : (pc : Int) + off = (tgt : Nat)) (hv : -2147483648 ≤ x ∧ x < 2147483648) (kt : tst cd x 0 = true → GO p l e R s m args below meth c D cs ba n0 z0 Q tgt ls st G h) (kf : ¬ tst cd x 0 = true → GO p l e R s m args below meth c D cs ba n0 z0 Q (pc + 3) ls st G h) : GO p l e R s m args below meth c D cs ba n0 z0 Q pc ls (.inl x :: st) G h := by
  obtain ⟨hx, hb, hr, hml, hown, hts, hlk, hnm, hN, hK, hs0⟩ := C
  intro arr H locs hL hP hS hF hgg hn hz
  have z0e : (0 : Int32) = Int32.ofInt 0 := rfl
  have b0 : -2147483648 ≤ (0 : Int) ∧ (0 : Int) < 2147483648 := by omega
  cases cd
  · refine lv_if_eq hx hb hd ht (fun q => kt ((tst_eq x 0).mpr ((i32_eq hv b0).mp q)) arr H locs hL hP hS hF hgg hn hz) (fun q => kf (fun z => q ((i32_eq hv b0).mpr ((tst_eq x 0).mp z))) arr H locs hL hP hS hF hgg hn hz)
  · refine lv_if_ne hx hb hd ht (fun q => kt ((tst_ne x 0).mpr (fun z => q ((i32_eq hv b0).mpr z))) arr H locs hL hP hS hF hgg hn hz) (fun q => kf (fun z => (tst_ne x 0).mp z ((i32_eq hv b0).mp q)) arr H locs hL hP hS hF hgg hn hz)
  · refine lv_if_lt hx hb hd ht (fun q => kt ((tst_lt x 0).mpr ((i32_lt hv b0).mp q)) arr H locs hL hP hS hF hgg hn hz) (fun q => kf (fun z => q ((i32_lt hv b0).mpr ((tst_lt x 0).mp z))) arr H locs hL hP hS hF hgg hn hz)
  · refine lv_if_ge hx hb hd ht (fun q => kt ((tst_ge x 0).mpr ((i32_le b0 hv).mp q)) arr H locs hL hP hS hF hgg hn hz) (fun q => kf (fun z => q ((i32_le b0 hv).mpr ((tst_ge x 0).mp z))) arr H locs hL hP hS hF hgg hn hz)
  · refine lv_if_gt hx hb hd ht (fun q => kt ((tst_gt x 0).mpr ((i32_lt b0 hv).mp q)) arr H locs hL hP hS hF hgg hn hz) (fun q => kf (fun z => q ((i32_lt b0 hv).mpr ((tst_gt x 0).mp z))) arr H locs hL hP hS hF hgg hn hz)
  · refine lv_if_le hx hb hd ht (fun q => kt ((tst_le x 0).mpr ((i32_le hv b0).mp q)) arr H locs hL hP hS hF hgg hn hz) (fun q => kf (fun z => q ((i32_le hv b0).mpr ((tst_le x 0).mp z))) arr H locs hL hP hS hF hgg hn hz)
theorem b32 {x y : Int} (hv : ((-2147483648 ≤ x ∧ x < 2147483648) ∧ (-2147483648 ≤ y ∧ y < 2147483648)) ∨ x = y) : (Int32.ofInt x = Int32.ofInt y ↔ x = y) ∧ (Int32.ofInt x < Int32.ofInt y ↔ x < y) ∧ (Int32.ofInt y < Int32.ofInt x ↔ y < x) ∧ (Int32.ofInt x ≤ Int32.ofInt y ↔ x ≤ y) ∧ (Int32.ofInt y ≤ Int32.ofInt x ↔ y ≤ x) := by
  rcases hv with ⟨a, b⟩ | rfl
  · exact ⟨i32_eq a b, i32_lt a b, i32_lt b a, i32_le a b, i32_le b a⟩
  · refine ⟨by simp, ?_, ?_, ?_, ?_⟩
    · exact ⟨fun q => absurd q Int32.lt_irrefl, fun q => absurd q (by omega)⟩
    · exact ⟨fun q => absurd q Int32.lt_irrefl, fun q => absurd q (by omega)⟩
    · exact ⟨fun _ => Int.le_refl _, fun _ => Int32.le_refl _⟩
    · exact ⟨fun _ => Int.le_refl _, fun _ => Int32.le_refl _⟩
theorem s_icmp {cd : Jvm.ClassFile.Cond} {off x y : Int} {tgt : Nat} (C : CT k p s m args meth c D cs ba n0) (hd : decode (P_b k) pc = .ok (.if_icmp cd off, 3)) (ht : (pc : Int) + off = (tgt : Nat)) (hv : ((-2147483648 ≤ x ∧ x < 2147483648) ∧ (-2147483648 ≤ y ∧ y < 2147483648)) ∨ x = y) (kt : tst cd x y = true → GO p l e R s m args below meth c D cs ba n0 z0 Q tgt ls st G h) (kf : ¬ tst cd x y = true → GO p l e R s m args below meth c D cs ba n0 z0 Q (pc + 3) ls st G h) : GO p l e R s m args below meth c D cs ba n0 z0 Q pc ls (.inl y :: .inl x :: st) G h := by
  obtain ⟨hx, hb, hr, hml, hown, hts, hlk, hnm, hN, hK, hs0⟩ := C
  intro arr H locs hL hP hS hF hgg hn hz
  obtain ⟨q1, q2, q3, q4, q5⟩ := b32 hv
  cases cd
  · refine lv_icmp_eq hx hb hd ht (fun q => kt ((tst_eq x y).mpr (q1.mp q)) arr H locs hL hP hS hF hgg hn hz) (fun q => kf (fun z => q (q1.mpr ((tst_eq x y).mp z))) arr H locs hL hP hS hF hgg hn hz)
  · refine lv_icmp_ne hx hb hd ht (fun q => kt ((tst_ne x y).mpr (fun z => q (q1.mpr z))) arr H locs hL hP hS hF hgg hn hz) (fun q => kf (fun z => (tst_ne x y).mp z (q1.mp q)) arr H locs hL hP hS hF hgg hn hz)
  · refine lv_icmp_lt hx hb hd ht (fun q => kt ((tst_lt x y).mpr (q2.mp q)) arr H locs hL hP hS hF hgg hn hz) (fun q => kf (fun z => q (q2.mpr ((tst_lt x y).mp z))) arr H locs hL hP hS hF hgg hn hz)
  · refine lv_icmp_ge hx hb hd ht (fun q => kt ((tst_ge x y).mpr (q5.mp q)) arr H locs hL hP hS hF hgg hn hz) (fun q => kf (fun z => q (q5.mpr ((tst_ge x y).mp z))) arr H locs hL hP hS hF hgg hn hz)
  · refine lv_icmp_gt hx hb hd ht (fun q => kt ((tst_gt x y).mpr (q3.mp q)) arr H locs hL hP hS hF hgg hn hz) (fun q => kf (fun z => q (q3.mpr ((tst_gt x y).mp z))) arr H locs hL hP hS hF hgg hn hz)
  · refine lv_icmp_le hx hb hd ht (fun q => kt ((tst_le x y).mpr (q4.mp q)) arr H locs hL hP hS hF hgg hn hz) (fun q => kf (fun z => q (q4.mpr ((tst_le x y).mp z))) arr H locs hL hP hS hF hgg hn hz)
theorem s_tabO {df lo hi x : Int} {offs : Array Int} {len tgt : Nat} (C : CT k p s m args meth c D cs ba n0) (hd : decode (P_b k) pc = .ok (.tableswitch df lo hi offs, len)) (hv : -2147483648 ≤ x ∧ x < 2147483648) (ho : x < lo ∨ hi < x) (ht : (pc : Int) + df = (tgt : Nat)) (kk : GO p l e R s m args below meth c D cs ba n0 z0 Q tgt ls st G h) : GO p l e R s m args below meth c D cs ba n0 z0 Q pc ls (.inl x :: st) G h := by
  obtain ⟨hx, hb, hr, hml, hown, hts, hlk, hnm, hN, hK, hs0⟩ := C
  intro arr H locs hL hP hS hF hgg hn hz
  have e0 : (Int32.ofInt x).toInt = x := Int32.toInt_ofInt_of_le (by omega) (by omega)
  exact lv_tableOut hx hb hd (by rw [e0]; exact ho) ht (kk arr H locs hL hP hS hF hgg hn hz)
theorem s_tabI {df lo hi x off : Int} {offs : Array Int} {len tgt : Nat} (C : CT k p s m args meth c D cs ba n0) (hd : decode (P_b k) pc = .ok (.tableswitch df lo hi offs, len)) (hv : -2147483648 ≤ x ∧ x < 2147483648) (ho : ¬ (x < lo ∨ hi < x)) (h2 : offs[(x - lo).toNat]? = some off) (ht : (pc : Int) + off = (tgt : Nat)) (kk : GO p l e R s m args below meth c D cs ba n0 z0 Q tgt ls st G h) : GO p l e R s m args below meth c D cs ba n0 z0 Q pc ls (.inl x :: st) G h := by
  obtain ⟨hx, hb, hr, hml, hown, hts, hlk, hnm, hN, hK, hs0⟩ := C
  intro arr H locs hL hP hS hF hgg hn hz
  have e0 : (Int32.ofInt x).toInt = x := Int32.toInt_ofInt_of_le (by omega) (by omega)
  exact lv_tableIn hx hb hd (by rw [e0]; omega) (by rw [e0]; omega) (by rw [e0]; exact h2) ht (kk arr H locs hL hP hS hF hgg hn hz)
theorem s_lkp {df x : Int} {ps : Array (Int × Int)} {len tgt : Nat} (C : CT k p s m args meth c D cs ba n0) (hd : decode (P_b k) pc = .ok (.lookupswitch df ps, len)) (hv : -2147483648 ≤ x ∧ x < 2147483648) (hp : (ps.toList.zip (ps.toList.drop 1)).all (fun (a, next) => a.1 < next.1) = true) (ht : (pc : Int) + Op.lookupswitch.offset ps.toList df x = (tgt : Nat)) (kk : GO p l e R s m args below meth c D cs ba n0 z0 Q tgt ls st G h) : GO p l e R s m args below meth c D cs ba n0 z0 Q pc ls (.inl x :: st) G h := by
  obtain ⟨hx, hb, hr, hml, hown, hts, hlk, hnm, hN, hK, hs0⟩ := C
  intro arr H locs hL hP hS hF hgg hn hz
  have e0 : (Int32.ofInt x).toInt = x := Int32.toInt_ofInt_of_le (by omega) (by omega)
  exact lv_lookup hx hb hd hp (by rw [e0]) ht (kk arr H locs hL hP hS hF hgg hn hz)
end
