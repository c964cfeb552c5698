/-! 84: the law -/
set_option maxRecDepth 100000 in
theorem W_0 {d : Nat} {l0 l1 l2 l3 : Option AV} {st : List AV} {G : AG} {h : AH} {Q : Option AV → AG → AH → Prop} : wp d 211 33 [l0, l1, l2, l3] (.inl 0 :: st) G h Q = wp d 211 200 [l0, l1, l2, l3] st G h Q := wp_nx rfl
set_option maxRecDepth 100000 in
theorem W_1 {d : Nat} {l0 l1 l2 l3 : Option AV} {st : List AV} {G : AG} {h : AH} {Q : Option AV → AG → AH → Prop} : wp d 211 33 [l0, l1, l2, l3] (.inl 1 :: st) G h Q = wp d 211 233 [l0, l1, l2, l3] st G h Q := wp_nx rfl
set_option maxRecDepth 100000 in
theorem W_2 {d : Nat} {l0 l1 l2 l3 : Option AV} {st : List AV} {G : AG} {h : AH} {Q : Option AV → AG → AH → Prop} : wp d 211 33 [l0, l1, l2, l3] (.inl 2 :: st) G h Q = wp d 211 276 [l0, l1, l2, l3] st G h Q := wp_nx rfl
set_option maxRecDepth 100000 in
theorem W_3 {d : Nat} {l0 l1 l2 l3 : Option AV} {st : List AV} {G : AG} {h : AH} {Q : Option AV → AG → AH → Prop} : wp d 211 33 [l0, l1, l2, l3] (.inl 3 :: st) G h Q = wp d 211 309 [l0, l1, l2, l3] st G h Q := wp_nx rfl
set_option maxRecDepth 100000 in
theorem W_4 {d : Nat} {l0 l1 l2 l3 : Option AV} {st : List AV} {G : AG} {h : AH} {Q : Option AV → AG → AH → Prop} : wp d 211 33 [l0, l1, l2, l3] (.inl 4 :: st) G h Q = wp d 211 332 [l0, l1, l2, l3] st G h Q := wp_nx rfl
set_option maxRecDepth 100000 in
theorem W_5 {d : Nat} {l0 l1 l2 l3 : Option AV} {st : List AV} {G : AG} {h : AH} {Q : Option AV → AG → AH → Prop} : wp d 211 33 [l0, l1, l2, l3] (.inl 5 :: st) G h Q = wp d 211 395 [l0, l1, l2, l3] st G h Q := wp_nx rfl
set_option maxRecDepth 100000 in
theorem W_6 {d : Nat} {l0 l1 l2 l3 : Option AV} {st : List AV} {G : AG} {h : AH} {Q : Option AV → AG → AH → Prop} : wp d 211 33 [l0, l1, l2, l3] (.inl 6 :: st) G h Q = wp d 211 418 [l0, l1, l2, l3] st G h Q := wp_nx rfl
set_option maxRecDepth 100000 in
theorem W_7 {d : Nat} {l0 l1 l2 l3 : Option AV} {st : List AV} {G : AG} {h : AH} {Q : Option AV → AG → AH → Prop} : wp d 211 33 [l0, l1, l2, l3] (.inl 7 :: st) G h Q = wp d 211 451 [l0, l1, l2, l3] st G h Q := wp_nx rfl
set_option maxRecDepth 100000 in
theorem W_8 {d : Nat} {l0 l1 l2 l3 : Option AV} {st : List AV} {G : AG} {h : AH} {Q : Option AV → AG → AH → Prop} : wp d 211 33 [l0, l1, l2, l3] (.inl 8 :: st) G h Q = wp d 211 494 [l0, l1, l2, l3] st G h Q := wp_nx rfl
set_option maxRecDepth 100000 in
theorem W_9 {d : Nat} {l0 l1 l2 l3 : Option AV} {st : List AV} {G : AG} {h : AH} {Q : Option AV → AG → AH → Prop} : wp d 211 33 [l0, l1, l2, l3] (.inl 9 :: st) G h Q = wp d 211 517 [l0, l1, l2, l3] st G h Q := wp_nx rfl
set_option maxRecDepth 100000 in
theorem W_10 {d : Nat} {l0 l1 l2 l3 : Option AV} {st : List AV} {G : AG} {h : AH} {Q : Option AV → AG → AH → Prop} : wp d 211 33 [l0, l1, l2, l3] (.inl 10 :: st) G h Q = wp d 211 540 [l0, l1, l2, l3] st G h Q := wp_nx rfl
set_option maxRecDepth 100000 in
theorem W_11 {d : Nat} {l0 l1 l2 l3 : Option AV} {st : List AV} {G : AG} {h : AH} {Q : Option AV → AG → AH → Prop} : wp d 211 33 [l0, l1, l2, l3] (.inl 11 :: st) G h Q = wp d 211 573 [l0, l1, l2, l3] st G h Q := wp_nx rfl
set_option maxRecDepth 100000 in
theorem W_12 {d : Nat} {l0 l1 l2 l3 : Option AV} {st : List AV} {G : AG} {h : AH} {Q : Option AV → AG → AH → Prop} : wp d 211 33 [l0, l1, l2, l3] (.inl 12 :: st) G h Q = wp d 211 606 [l0, l1, l2, l3] st G h Q := wp_nx rfl
set_option maxRecDepth 100000 in
theorem W_13 {d : Nat} {l0 l1 l2 l3 : Option AV} {st : List AV} {G : AG} {h : AH} {Q : Option AV → AG → AH → Prop} : wp d 211 33 [l0, l1, l2, l3] (.inl 13 :: st) G h Q = wp d 211 639 [l0, l1, l2, l3] st G h Q := wp_nx rfl
set_option maxRecDepth 100000 in
theorem W_14 {d : Nat} {l0 l1 l2 l3 : Option AV} {st : List AV} {G : AG} {h : AH} {Q : Option AV → AG → AH → Prop} : wp d 211 33 [l0, l1, l2, l3] (.inl 14 :: st) G h Q = wp d 211 662 [l0, l1, l2, l3] st G h Q := wp_nx rfl
set_option maxRecDepth 100000 in
theorem W_15 {d : Nat} {l0 l1 l2 l3 : Option AV} {st : List AV} {G : AG} {h : AH} {Q : Option AV → AG → AH → Prop} : wp d 211 33 [l0, l1, l2, l3] (.inl 15 :: st) G h Q = wp d 211 695 [l0, l1, l2, l3] st G h Q := wp_nx rfl
set_option maxRecDepth 100000 in
theorem W_16 {d : Nat} {l0 l1 l2 l3 : Option AV} {st : List AV} {G : AG} {h : AH} {Q : Option AV → AG → AH → Prop} : wp d 211 33 [l0, l1, l2, l3] (.inl 16 :: st) G h Q = wp d 211 718 [l0, l1, l2, l3] st G h Q := wp_nx rfl
set_option maxRecDepth 100000 in
theorem W_17 {d : Nat} {l0 l1 l2 l3 : Option AV} {st : List AV} {G : AG} {h : AH} {Q : Option AV → AG → AH → Prop} : wp d 211 33 [l0, l1, l2, l3] (.inl 17 :: st) G h Q = wp d 211 741 [l0, l1, l2, l3] st G h Q := wp_nx rfl
set_option maxRecDepth 100000 in
theorem W_18 {d : Nat} {l0 l1 l2 l3 : Option AV} {st : List AV} {G : AG} {h : AH} {Q : Option AV → AG → AH → Prop} : wp d 211 33 [l0, l1, l2, l3] (.inl 18 :: st) G h Q = wp d 211 764 [l0, l1, l2, l3] st G h Q := wp_nx rfl
set_option maxRecDepth 100000 in
theorem W_19 {d : Nat} {l0 l1 l2 l3 : Option AV} {st : List AV} {G : AG} {h : AH} {Q : Option AV → AG → AH → Prop} : wp d 211 33 [l0, l1, l2, l3] (.inl 19 :: st) G h Q = wp d 211 817 [l0, l1, l2, l3] st G h Q := wp_nx rfl
set_option maxRecDepth 100000 in
theorem W_20 {d : Nat} {l0 l1 l2 l3 : Option AV} {st : List AV} {G : AG} {h : AH} {Q : Option AV → AG → AH → Prop} : wp d 211 33 [l0, l1, l2, l3] (.inl 20 :: st) G h Q = wp d 211 850 [l0, l1, l2, l3] st G h Q := wp_nx rfl
set_option maxRecDepth 100000 in
theorem W_21 {d : Nat} {l0 l1 l2 l3 : Option AV} {st : List AV} {G : AG} {h : AH} {Q : Option AV → AG → AH → Prop} : wp d 211 33 [l0, l1, l2, l3] (.inl 21 :: st) G h Q = wp d 211 873 [l0, l1, l2, l3] st G h Q := wp_nx rfl
set_option maxRecDepth 100000 in
theorem W_22 {d : Nat} {l0 l1 l2 l3 : Option AV} {st : List AV} {G : AG} {h : AH} {Q : Option AV → AG → AH → Prop} : wp d 211 33 [l0, l1, l2, l3] (.inl 22 :: st) G h Q = wp d 211 916 [l0, l1, l2, l3] st G h Q := wp_nx rfl
set_option maxRecDepth 100000 in
theorem W_23 {d : Nat} {l0 l1 l2 l3 : Option AV} {st : List AV} {G : AG} {h : AH} {Q : Option AV → AG → AH → Prop} : wp d 211 33 [l0, l1, l2, l3] (.inl 23 :: st) G h Q = wp d 211 949 [l0, l1, l2, l3] st G h Q := wp_nx rfl
set_option maxRecDepth 100000 in
theorem W_24 {d : Nat} {l0 l1 l2 l3 : Option AV} {st : List AV} {G : AG} {h : AH} {Q : Option AV → AG → AH → Prop} : wp d 211 33 [l0, l1, l2, l3] (.inl 24 :: st) G h Q = wp d 211 972 [l0, l1, l2, l3] st G h Q := wp_nx rfl
set_option maxRecDepth 100000 in
theorem W_25 {d : Nat} {l0 l1 l2 l3 : Option AV} {st : List AV} {G : AG} {h : AH} {Q : Option AV → AG → AH → Prop} : wp d 211 33 [l0, l1, l2, l3] (.inl 25 :: st) G h Q = wp d 211 1005 [l0, l1, l2, l3] st G h Q := wp_nx rfl
set_option maxRecDepth 100000 in
theorem W_26 {d : Nat} {l0 l1 l2 l3 : Option AV} {st : List AV} {G : AG} {h : AH} {Q : Option AV → AG → AH → Prop} : wp d 211 33 [l0, l1, l2, l3] (.inl 26 :: st) G h Q = wp d 211 1038 [l0, l1, l2, l3] st G h Q := wp_nx rfl
set_option maxRecDepth 100000 in
theorem W_27 {d : Nat} {l0 l1 l2 l3 : Option AV} {st : List AV} {G : AG} {h : AH} {Q : Option AV → AG → AH → Prop} : wp d 211 33 [l0, l1, l2, l3] (.inl 27 :: st) G h Q = wp d 211 1071 [l0, l1, l2, l3] st G h Q := wp_nx rfl
set_option maxRecDepth 100000 in
theorem W_28 {d : Nat} {l0 l1 l2 l3 : Option AV} {st : List AV} {G : AG} {h : AH} {Q : Option AV → AG → AH → Prop} : wp d 211 33 [l0, l1, l2, l3] (.inl 28 :: st) G h Q = wp d 211 1094 [l0, l1, l2, l3] st G h Q := wp_nx rfl
set_option maxRecDepth 100000 in
theorem W_29 {d : Nat} {l0 l1 l2 l3 : Option AV} {st : List AV} {G : AG} {h : AH} {Q : Option AV → AG → AH → Prop} : wp d 211 33 [l0, l1, l2, l3] (.inl 29 :: st) G h Q = wp d 211 1147 [l0, l1, l2, l3] st G h Q := wp_nx rfl
set_option maxRecDepth 100000 in
theorem W_30 {d : Nat} {l0 l1 l2 l3 : Option AV} {st : List AV} {G : AG} {h : AH} {Q : Option AV → AG → AH → Prop} : wp d 211 33 [l0, l1, l2, l3] (.inl 30 :: st) G h Q = wp d 211 1190 [l0, l1, l2, l3] st G h Q := wp_nx rfl
set_option maxRecDepth 100000 in
theorem W_31 {d : Nat} {l0 l1 l2 l3 : Option AV} {st : List AV} {G : AG} {h : AH} {Q : Option AV → AG → AH → Prop} : wp d 211 33 [l0, l1, l2, l3] (.inl 31 :: st) G h Q = wp d 211 1223 [l0, l1, l2, l3] st G h Q := wp_nx rfl
set_option maxRecDepth 100000 in
theorem W_32 {d : Nat} {l0 l1 l2 l3 : Option AV} {st : List AV} {G : AG} {h : AH} {Q : Option AV → AG → AH → Prop} : wp d 211 33 [l0, l1, l2, l3] (.inl 32 :: st) G h Q = wp d 211 1236 [l0, l1, l2, l3] st G h Q := wp_nx rfl
set_option maxRecDepth 100000 in
theorem W_33 {d : Nat} {l0 l1 l2 l3 : Option AV} {st : List AV} {G : AG} {h : AH} {Q : Option AV → AG → AH → Prop} : wp d 211 33 [l0, l1, l2, l3] (.inl 33 :: st) G h Q = wp d 211 1250 [l0, l1, l2, l3] st G h Q := wp_nx rfl
set_option maxRecDepth 100000 in
theorem W_34 {d : Nat} {l0 l1 l2 l3 : Option AV} {st : List AV} {G : AG} {h : AH} {Q : Option AV → AG → AH → Prop} : wp d 211 33 [l0, l1, l2, l3] (.inl 34 :: st) G h Q = wp d 211 1264 [l0, l1, l2, l3] st G h Q := wp_nx rfl
set_option maxRecDepth 100000 in
theorem W_35 {d : Nat} {l0 l1 l2 l3 : Option AV} {st : List AV} {G : AG} {h : AH} {Q : Option AV → AG → AH → Prop} : wp d 211 33 [l0, l1, l2, l3] (.inl 35 :: st) G h Q = wp d 211 1287 [l0, l1, l2, l3] st G h Q := wp_nx rfl
set_option maxRecDepth 100000 in
theorem W_36 {d : Nat} {l0 l1 l2 l3 : Option AV} {st : List AV} {G : AG} {h : AH} {Q : Option AV → AG → AH → Prop} : wp d 211 33 [l0, l1, l2, l3] (.inl 36 :: st) G h Q = wp d 211 1300 [l0, l1, l2, l3] st G h Q := wp_nx rfl
set_option maxRecDepth 100000 in
theorem W_37 {d : Nat} {l0 l1 l2 l3 : Option AV} {st : List AV} {G : AG} {h : AH} {Q : Option AV → AG → AH → Prop} : wp d 211 33 [l0, l1, l2, l3] (.inl 37 :: st) G h Q = wp d 211 1323 [l0, l1, l2, l3] st G h Q := wp_nx rfl
set_option maxRecDepth 100000 in
theorem W_d {d : Nat} {l0 l1 l2 l3 : Option AV} {st : List AV} {x : Int} {G : AG} {h : AH} {Q : Option AV → AG → AH → Prop} (hx : 38 ≤ x ∧ x < 64) : wp d 211 33 [l0, l1, l2, l3] (.inl x :: st) G h Q = wp d 211 1337 [l0, l1, l2, l3] st G h Q := by
  refine wp_nx ?_
  unfold step
  show tabS 1304 0 37 #[167, 200, 243, 276, 299, 362, 385, 418, 461, 484, 507, 540, 573, 606, 629, 662, 685, 708, 731, 784, 817, 840, 883, 916, 939, 972, 1005, 1038, 1061, 1114, 1157, 1190, 1203, 1217, 1231, 1254, 1267, 1290] 33 [l0, l1, l2, l3] (.inl x :: st) G h = _
  simp only [tabS]
  rw [if_pos (by omega), if_pos (by omega)]
  exact jmp_to rfl
def Q0 : Option AV → AG → AH → Prop := fun r G' _ => r = some (.inl 1) ∧ gN G' ≤ 600000 ∧ gZ G' ≤ 7302250
theorem Q0_1 {h : AH} : Q0 (some (.inl 1)) G1 h := ⟨rfl, by decide, by decide⟩
theorem SCR_k {L : Nat} {h h2 : AH} (hS : SCR L h) (e : ∀ a, 1000 ≤ a → h2 a = h a) : SCR L h2 := by
  unfold SCR
  rw [e 1002 (by omega), e 1001 (by omega)]
  exact hS
set_option maxRecDepth 100000 in
theorem LAW {L : Nat} : ∀ (m n : Nat) (h : AH), n + m = 512 → INV n h → SCR L h → wp 30 211 18 [some (.inr (.inr (some 1001))), some (.inr (.inr (some 0))), some (.inr (.inr (some 63))), some (.inl ((6 * n : Nat) : Int))] [] G1 h Q0 := by
  intro m
  induction m with
  | zero =>
    intro n h hm H hS
    have b0 := hS.1
    have b00 := hS.2.1
    have q := Q0_1 (h := h)
    simp (disch := omega) only [X_211_18, X_211_19, X_211_20, X_211_21, X_211_23, X_211_24_f, X_211_24_t, X_211_1343, X_211_1344]
    exact q
  | succ m ih =>
    intro n h hm H hS
    have b0 := hS.1
    have b00 := hS.2.1
    by_cases hL : 6 * n + 6 ≤ L
    case neg =>
      have q := Q0_1 (h := h)
      simp (disch := omega) only [X_211_18, X_211_19, X_211_20, X_211_21, X_211_23, X_211_24_f, X_211_24_t, X_211_1343, X_211_1344]
      exact q
    have K : NXT L n h Q0 := fun h2 I e => ih (n + 1) h2 (by omega) I (SCR_k hS e)
    have hn : n < 512 := by omega
    have ex := bAnd_63 (x := h 1001 (6 * n))
    simp (disch := omega) only [X_211_18, X_211_19, X_211_20, X_211_21, X_211_23, X_211_24_f, X_211_24_t, X_211_27, X_211_28, X_211_29, X_211_30, X_211_32, Int.toNat_natCast]
    generalize bAnd (h 1001 (6 * n)) 63 = x at ex
    by_cases hd : 38 ≤ x
    · rw [W_d (by omega)]
      have q := K h (INV_same H) (fun _ _ => rfl)
      simp (disch := omega) only [X_211_1337, X_211_1340, n66, fixp_r]
      exact q
    have hx : x = 0 ∨ x = 1 ∨ x = 2 ∨ x = 3 ∨ x = 4 ∨ x = 5 ∨ x = 6 ∨ x = 7 ∨ x = 8 ∨ x = 9 ∨ x = 10 ∨ x = 11 ∨ x = 12 ∨ x = 13 ∨ x = 14 ∨ x = 15 ∨ x = 16 ∨ x = 17 ∨ x = 18 ∨ x = 19 ∨ x = 20 ∨ x = 21 ∨ x = 22 ∨ x = 23 ∨ x = 24 ∨ x = 25 ∨ x = 26 ∨ x = 27 ∨ x = 28 ∨ x = 29 ∨ x = 30 ∨ x = 31 ∨ x = 32 ∨ x = 33 ∨ x = 34 ∨ x = 35 ∨ x = 36 ∨ x = 37 := by omega
    rcases hx with rfl | rfl | rfl | rfl | rfl | rfl | rfl | rfl | rfl | rfl | rfl | rfl | rfl | rfl | rfl | rfl | rfl | rfl | rfl | rfl | rfl | rfl | rfl | rfl | rfl | rfl | rfl | rfl | rfl | rfl | rfl | rfl | rfl | rfl | rfl | rfl | rfl | rfl
    · rw [W_0]; exact LC_0 H hn hS hL K
    · rw [W_1]; exact LC_1 H hn hS hL K
    · rw [W_2]; exact LC_2 H hn hS hL K
    · rw [W_3]; exact LC_3 H hn hS hL K
    · rw [W_4]; exact LC_4 H hn hS hL K
    · rw [W_5]; exact LC_5 H hn hS hL K
    · rw [W_6]; exact LC_6 H hn hS hL K
    · rw [W_7]; exact LC_7 H hn hS hL K
    · rw [W_8]; exact LC_8 H hn hS hL K
    · rw [W_9]; exact LC_9 H hn hS hL K
    · rw [W_10]; exact LC_10 H hn hS hL K
    · rw [W_11]; exact LC_11 H hn hS hL K
    · rw [W_12]; exact LC_12 H hn hS hL K
    · rw [W_13]; exact LC_13 H hn hS hL K
    · rw [W_14]; exact LC_14 H hn hS hL K
    · rw [W_15]; exact LC_15 H hn hS hL K
    · rw [W_16]; exact LC_16 H hn hS hL K
    · rw [W_17]; exact LC_17 H hn hS hL K
    · rw [W_18]; exact LC_18 H hn hS hL K
    · rw [W_19]; exact LC_19 H hn hS hL K
    · rw [W_20]; exact LC_20 H hn hS hL K
    · rw [W_21]; exact LC_21 H hn hS hL K
    · rw [W_22]; exact LC_22 H hn hS hL K
    · rw [W_23]; exact LC_23 H hn hS hL K
    · rw [W_24]; exact LC_24 H hn hS hL K
    · rw [W_25]; exact LC_25 H hn hS hL K
    · rw [W_26]; exact LC_26 H hn hS hL K
    · rw [W_27]; exact LC_27 H hn hS hL K
    · rw [W_28]; exact LC_28 H hn hS hL K
    · rw [W_29]; exact LC_29 H hn hS hL K
    · rw [W_30]; exact LC_30 H hn hS hL K
    · rw [W_31]; exact LC_31 H hn hS hL K
    · rw [W_32]; exact LC_32 H hn hS hL K
    · rw [W_33]; exact LC_33 H hn hS hL K
    · rw [W_34]; exact LC_34 H hn hS hL K
    · rw [W_35]; exact LC_35 H hn hS hL K
    · rw [W_36]; exact LC_36 H hn hS hL K
    · rw [W_37]; exact LC_37 H hn hS hL K
