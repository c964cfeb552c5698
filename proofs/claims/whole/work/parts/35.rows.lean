/-! 35: rows and texts, on both sides -/
theorem nat_of {x : Int} (h : 0 ≤ x) : ∃ n : Nat, x = (n : Int) := ⟨x.toNat, by omega⟩
theorem tn40 {r k : Nat} : ((40 : Int) * (r : Int) + (k : Int)).toNat = 40 * r + k := by omega
theorem tn60 {r k : Nat} : ((60 : Int) * (r : Int) + (k : Int)).toNat = 60 * r + k := by omega
theorem rwL_r {r : Nat} (h : r < 6) : rwL (22 + 2 * r) = 40 := by unfold rwL; rw [if_pos (by omega)]
theorem rwL_t {r : Nat} (h : r < 4) : rwL (34 + 2 * r) = 60 := by unfold rwL; rw [if_neg (by omega)]
theorem q23 {r : Nat} : 22 + 2 * r + 1 = 23 + 2 * r := by omega
theorem q35 {r : Nat} : 34 + 2 * r + 1 = 35 + 2 * r := by omega
theorem fnd_o {h : AH} {w : Int} {a : Nat} (h0 : ¬ a = 0) (h1 : ¬ a = 18) : fnd h w a = h a := by unfold fnd; rw [put_row h1, put_row h0]
theorem OpI_find {kc km n : Nat} {as : List AV} {h : AH} {w : Int} (hw : 1 ≤ w ∧ w ≤ 5) (H : INV n h) (c1 : ∀ Q, call 30 kc (.inr (.inr (some 0)) :: as) G1 h Q = Q (some (.inl (-3))) G1 (fnd h w)) (c2 : ∀ Q, call 30 km (.inr (.inr (some 63)) :: as) G1 (fnd h w) Q = Q (some (.inl (-3))) G1 (fn3 (fnd h w) w)) : ∃ (r : Int) (h1 h2 : AH), (-2147483648 ≤ r ∧ r < 2147483648) ∧ (∀ Q, call 30 kc (.inr (.inr (some 0)) :: as) G1 h Q = Q (some (.inl r)) G1 h1) ∧ (∀ Q, call 30 km (.inr (.inr (some 63)) :: as) G1 h1 Q = Q (some (.inl r)) G1 h2) ∧ INV (n + 1) h2 := ⟨-3, fnd h w, fn3 (fnd h w) w, by omega, c1, c2, INV_find hw H⟩
theorem OpI_same {kc km n : Nat} {as : List AV} {h : AH} {r : Int} (hr : -2147483648 ≤ r ∧ r < 2147483648) (H : INV n h) (c1 : ∀ Q, call 30 kc (.inr (.inr (some 0)) :: as) G1 h Q = Q (some (.inl r)) G1 h) (c2 : ∀ Q, call 30 km (.inr (.inr (some 63)) :: as) G1 h Q = Q (some (.inl r)) G1 h) : ∃ (r : Int) (h1 h2 : AH), (-2147483648 ≤ r ∧ r < 2147483648) ∧ (∀ Q, call 30 kc (.inr (.inr (some 0)) :: as) G1 h Q = Q (some (.inl r)) G1 h1) ∧ (∀ Q, call 30 km (.inr (.inr (some 63)) :: as) G1 h1 Q = Q (some (.inl r)) G1 h2) ∧ INV (n + 1) h2 := ⟨r, h, h, hr, c1, c2, INV_same H⟩
theorem OpI_ask {kc km n : Nat} {as : List AV} {h : AH} {v : Int} (hv : -2147483648 ≤ v ∧ v < 2147483648) (H : INV n h) (c1 : ∀ Q, call 30 kc (.inr (.inr (some 0)) :: as) G1 h Q = Q (some (.inl 1)) G1 (put h 0 10 v)) (c2 : ∀ Q, call 30 km (.inr (.inr (some 63)) :: as) G1 (put h 0 10 v) Q = Q (some (.inl 1)) G1 (put (put h 0 10 v) 63 10 v)) : ∃ (r : Int) (h1 h2 : AH), (-2147483648 ≤ r ∧ r < 2147483648) ∧ (∀ Q, call 30 kc (.inr (.inr (some 0)) :: as) G1 h Q = Q (some (.inl r)) G1 h1) ∧ (∀ Q, call 30 km (.inr (.inr (some 63)) :: as) G1 h1 Q = Q (some (.inl r)) G1 h2) ∧ INV (n + 1) h2 := ⟨1, _, _, by omega, c1, c2, INV_ask hv H⟩
/-- a run of a row set anew -/
def blk (g : TF) (off m : Nat) (f : TF) : TF := fun s => if off ≤ s ∧ s < off + m then f (s - off) else g s
theorem blk_0 {g f : TF} {off : Nat} : blk g off 0 f = g := by funext s; unfold blk; rw [if_neg (by omega)]
theorem blk_put {g f : TF} {off m : Nat} : putR (blk g off m f) (off + m) (f m) = blk g off (m + 1) f := by
  funext s
  unfold putR blk
  by_cases e : s = off + m
  · subst e; rw [if_pos rfl, if_pos (by omega), show off + m - off = m by omega]
  · rw [if_neg e]
    by_cases e2 : off ≤ s ∧ s < off + m
    · rw [if_pos e2, if_pos (by omega)]
    · rw [if_neg e2, if_neg (by omega)]
theorem blk_in {g f : TF} {off m k : Nat} (h : k < m) : blk g off m f (off + k) = f k := by unfold blk; rw [if_pos (by omega), show off + k - off = k by omega]
theorem blk_out {g f : TF} {off m s : Nat} (h : s < off ∨ off + m ≤ s) : blk g off m f s = g s := by unfold blk; rw [if_neg (by omega)]
theorem rbg_o {h : AH} {q : Nat} {n : Int} {a : Nat} (h0 : ¬ a = q) (h1 : ¬ a = q + 1) : rbg h q n a = h a := by unfold rbg; rw [put_row h0, setR_n h1]
theorem rbg_2 {h : AH} {q : Nat} {n : Int} : rbg h q n q 2 = n := by unfold rbg; rw [put_s]
theorem rbg_k {h : AH} {q k : Nat} {n : Int} (hk : ¬ k = 2) : rbg h q n q k = h q k := by unfold rbg; rw [put_nk hk, setR_n (by omega)]
theorem rbg_p {h : AH} {q k : Nat} {n : Int} (hk : k < rwL q) : rbg h q n (q + 1) k = h q 1 := by unfold rbg; rw [put_row (by omega), setR_s, mix_lt hk]
theorem L3_row {d r m : Nat} {h : AH} {Q : Option AV → AG → AH → Prop} (hr : r < 6) (hm : m ≤ 40) : ∀ (n i : Nat), i + n = m → wp d 124 34 [some (.inr (.inr (some 63))), some (.inl (r : Int)), some (.inl (m : Int)), some (.inl (i : Int))] [] G1 (setR h 67 (blk (h 67) (40 * r) i (fun _ => 0))) Q = Q (some (.inl (m : Int))) G1 (setR h 67 (blk (h 67) (40 * r) m (fun _ => 0))) := by
  intro n
  have g0 := g1_63
  have g1 := g1_67
  induction n with
  | zero =>
    intro i hi
    obtain rfl : i = m := by omega
    simp (disch := omega) only [X_124_34, X_124_0, X_124_1, X_124_4_t, X_124_4_f, X_124_4, X_124_7, X_124_8, X_124_10_t, X_124_10_f, X_124_10, X_124_13, X_124_14, X_124_15, X_124_16_t, X_124_16_f, X_124_16, X_124_19, X_124_20, X_124_21, X_124_24, X_124_25, X_124_26, X_124_29, X_124_30, X_124_31, X_124_32, X_124_33, X_124_35, X_124_36_t, X_124_36_f, X_124_36, X_124_39, X_124_40, X_124_43, X_124_45, X_124_46, X_124_47, X_124_48, X_124_49, X_124_50, X_124_51, X_124_54, X_124_57, X_124_58]
  | succ n ih =>
    intro i hi
    rw [X_124_34]
    simp (disch := omega) only [X_124_0, X_124_1, X_124_4_t, X_124_4_f, X_124_4, X_124_7, X_124_8, X_124_10_t, X_124_10_f, X_124_10, X_124_13, X_124_14, X_124_15, X_124_16_t, X_124_16_f, X_124_16, X_124_19, X_124_20, X_124_21, X_124_24, X_124_25, X_124_26, X_124_29, X_124_30, X_124_31, X_124_32, X_124_33, X_124_35, X_124_36_t, X_124_36_f, X_124_36, X_124_39, X_124_40, X_124_43, X_124_45, X_124_46, X_124_47, X_124_48, X_124_49, X_124_50, X_124_51, X_124_54, X_124_57, X_124_58, r1_63_4, put_set, setR_s, setR_2, tn40, fixp_i, natS]
    rw [← ih (i + 1) (by omega), ← blk_put (f := fun _ => 0)]
theorem Op_row {r m : Int} (hr : -2147483648 ≤ r ∧ r < 2147483648) (hm : -2147483648 ≤ m ∧ m < 2147483648) : OpI 39 124 [.inl r, .inl m] := by
  intro n h H hn
  have g0 := g1_0
  have g1 := g1_1
  have g63 := g1_63
  have g68 := g1_68
  by_cases h1 : 0 ≤ r ∧ r < 6
  · by_cases h2 : m ≤ 40
    · by_cases h3 : m < 0
      · refine OpI_find (w := 5) (by omega) H (fun Q => ?_) (fun Q => ?_)
        · rw [C_39]
          simp (disch := omega) only [X_39_0, X_39_1, X_39_4_t, X_39_4_f, X_39_4, X_39_7, X_39_8, X_39_10_t, X_39_10_f, X_39_10, X_39_13, X_39_14, X_39_15, X_39_16_t, X_39_16_f, X_39_16, X_39_19, X_39_20, X_39_21, X_39_24, X_39_25, X_39_26, X_39_29, X_39_30, X_39_31, X_39_32, X_39_35, X_39_36, S_isRow_t, S_found, pushR_some]
        · rw [C_124]
          simp (disch := omega) only [X_124_0, X_124_1, X_124_4_t, X_124_4_f, X_124_4, X_124_7, X_124_8, X_124_10_t, X_124_10_f, X_124_10, X_124_13, X_124_14, X_124_15, X_124_16_t, X_124_16_f, X_124_16, X_124_19, X_124_20, X_124_21, X_124_24, X_124_25, X_124_26, X_124_29, X_124_30, X_124_31, X_124_32, X_124_33, X_124_35, X_124_36_t, X_124_36_f, X_124_36, X_124_39, X_124_40, X_124_43, X_124_45, X_124_46, X_124_47, X_124_48, X_124_49, X_124_50, X_124_51, X_124_54, X_124_57, X_124_58, S3_isRow_t, S3_finds, pushR_some]
      · obtain ⟨r, rfl⟩ := nat_of h1.1
        obtain ⟨m, rfl⟩ := nat_of (x := m) (by omega)
        have hr6 : r < 6 := by omega
        have hR := rows_r hr6
        have hL := rwL_r hr6
        have hw := hR.2
        have hs := rw_s hw
        have R := H.2.2.1 r hr6
        generalize e2 : put (rbg h (22 + 2 * r) (m : Int)) 68 r (m : Int) = h2
        generalize e3 : setR h2 67 (blk (h2 67) (40 * r) m (fun _ => 0)) = h3
        refine ⟨m, rbg h (22 + 2 * r) (m : Int), h3, by omega, fun Q => ?_, fun Q => ?_, INV_same (INV_row hr6 H (fun a a1 a2 a3 a4 a5 => ?_) (fun s hs => ?_) (fun s hs hz => ?_) (fun s hs => ?_) ?_)⟩
        · rw [C_39]
          simp (disch := omega) only [X_39_0, X_39_1, X_39_4_t, X_39_4_f, X_39_4, X_39_7, X_39_8, X_39_10_t, X_39_10_f, X_39_10, X_39_13, X_39_14, X_39_15, X_39_16_t, X_39_16_f, X_39_16, X_39_19, X_39_20, X_39_21, X_39_24, X_39_25, X_39_26, X_39_29, X_39_30, X_39_31, X_39_32, X_39_35, X_39_36, S_isRow_t, pushR_some, r1_0_0, Int.toNat_natCast, hR.1, S_rbegin, pushR_none]
        · rw [C_124]
          simp (disch := omega) only [X_124_0, X_124_1, X_124_4_t, X_124_4_f, X_124_4, X_124_7, X_124_8, X_124_10_t, X_124_10_f, X_124_10, X_124_13, X_124_14, X_124_15, X_124_16_t, X_124_16_f, X_124_16, X_124_19, X_124_20, X_124_21, X_124_24, X_124_25, X_124_26, X_124_29, X_124_30, X_124_31, X_124_32, X_124_33, X_124_35, X_124_36_t, X_124_36_f, X_124_36, X_124_39, X_124_40, X_124_43, X_124_45, X_124_46, X_124_47, X_124_48, X_124_49, X_124_50, X_124_51, X_124_54, X_124_57, X_124_58, S3_isRow_t, pushR_some, r1_63_5, Int.toNat_natCast, fixp_i, e2]
          have q := L3_row (d := 29) (h := h2) (Q := Q) hr6 (show m ≤ 40 by omega) m 0 (by omega)
          rw [blk_0, setR_e, e3] at q
          exact q
        · rw [← e3, setR_n a4, ← e2, put_row a5, rbg_o a2 (by omega)]
        · rw [← e3, setR_n (by omega), ← e2, put_row (by omega), rbg_o (by omega) (by omega)]
          exact H.2.1 s hs
        · rw [← e3, setR_n (by omega), ← e2, put_nk hz, rbg_o (by omega) (by omega)]
        · rw [← e3, setR_s, blk_out (by omega), ← e2, put_row (by omega), rbg_o (by omega) (by omega)]
        · have y68 : h3 68 r = (m : Int) := by rw [← e3, setR_n (by omega), ← e2, put_s]
          unfold RowR
          rw [y68]
          refine ⟨?_, ?_, by omega, by omega, fun k hk => ?_⟩
          · rw [← e3, setR_n (by omega), ← e2, put_row (by omega), rbg_2]
          · rw [← e3, setR_n (by omega), ← e2, put_row (by omega), rbg_k (by omega), R.2.1]
          · have y1 : h3 (23 + 2 * r) k = 0 := by rw [← e3, setR_n (by omega), ← e2, put_row (by omega), ← q23, rbg_p (by omega), R.2.1]
            have y2 : h3 67 (40 * r + k) = 0 := by rw [← e3, setR_s, blk_in (by omega)]
            rw [y1, y2]
            omega
    · refine OpI_same (r := -1) (by omega) H (fun Q => ?_) (fun Q => ?_)
      · rw [C_39]
        simp (disch := omega) only [X_39_0, X_39_1, X_39_4_t, X_39_4_f, X_39_4, X_39_7, X_39_8, X_39_10_t, X_39_10_f, X_39_10, X_39_13, X_39_14, X_39_15, X_39_16_t, X_39_16_f, X_39_16, X_39_19, X_39_20, X_39_21, X_39_24, X_39_25, X_39_26, X_39_29, X_39_30, X_39_31, X_39_32, X_39_35, X_39_36, S_isRow_t, pushR_some]
      · rw [C_124]
        simp (disch := omega) only [X_124_0, X_124_1, X_124_4_t, X_124_4_f, X_124_4, X_124_7, X_124_8, X_124_10_t, X_124_10_f, X_124_10, X_124_13, X_124_14, X_124_15, X_124_16_t, X_124_16_f, X_124_16, X_124_19, X_124_20, X_124_21, X_124_24, X_124_25, X_124_26, X_124_29, X_124_30, X_124_31, X_124_32, X_124_33, X_124_35, X_124_36_t, X_124_36_f, X_124_36, X_124_39, X_124_40, X_124_43, X_124_45, X_124_46, X_124_47, X_124_48, X_124_49, X_124_50, X_124_51, X_124_54, X_124_57, X_124_58, S3_isRow_t, pushR_some]
  · refine OpI_same (r := -1) (by omega) H (fun Q => ?_) (fun Q => ?_)
    · rw [C_39]
      simp (disch := omega) only [X_39_0, X_39_1, X_39_4_t, X_39_4_f, X_39_4, X_39_7, X_39_8, X_39_10_t, X_39_10_f, X_39_10, X_39_13, X_39_14, X_39_15, X_39_16_t, X_39_16_f, X_39_16, X_39_19, X_39_20, X_39_21, X_39_24, X_39_25, X_39_26, X_39_29, X_39_30, X_39_31, X_39_32, X_39_35, X_39_36, S_isRow_f, pushR_some]
    · rw [C_124]
      simp (disch := omega) only [X_124_0, X_124_1, X_124_4_t, X_124_4_f, X_124_4, X_124_7, X_124_8, X_124_10_t, X_124_10_f, X_124_10, X_124_13, X_124_14, X_124_15, X_124_16_t, X_124_16_f, X_124_16, X_124_19, X_124_20, X_124_21, X_124_24, X_124_25, X_124_26, X_124_29, X_124_30, X_124_31, X_124_32, X_124_33, X_124_35, X_124_36_t, X_124_36_f, X_124_36, X_124_39, X_124_40, X_124_43, X_124_45, X_124_46, X_124_47, X_124_48, X_124_49, X_124_50, X_124_51, X_124_54, X_124_57, X_124_58, S3_isRow_f, pushR_some]
