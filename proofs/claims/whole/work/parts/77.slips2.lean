/-! 77: moves that slip, sums -/
def csW (S p : Int) : Nat → Nat → Int → Int
  | 0, _, a => a
  | m + 1, k, a => csW S p m (k + 1) (a * (if bt S k then p else 12 - p))
def slT (g : TF) (S : Int) : Nat → Nat → TF → TF
  | 0, _, f => f
  | m + 1, k, f => slT g S m (k + 1) (if bt S k then f else if barM f (g k) then f else mvF f (g k))
theorem slT_ty {g : TF} {S : Int} : ∀ {m k : Nat} {f : TF} {N : Int}, (∀ i, k ≤ i → i < k + m → 0 ≤ g i ∧ g i < 4) → tyOk f N → tyOk (slT g S m k f) (N + (m : Int))
  | 0, _, f, N, _, hf => by simpa [slT] using hf
  | m + 1, k, f, N, hg, hf => by
    unfold slT
    rw [show N + ((m + 1 : Nat) : Int) = N + 1 + (m : Int) by omega]
    refine slT_ty (fun i a b => hg i (by omega) (by omega)) ?_
    have lift : tyOk f (N + 1) := by
      obtain ⟨a1, a2, a3, a4, a5, a6, a7⟩ := hf
      exact ⟨a1, a2, a3, a4, a5, a6, by omega⟩
    split
    · exact lift
    · split
      · exact lift
      · exact mvF_ty (hg k (by omega) (by omega)) hf
theorem slT_hi {g : TF} {S : Int} {s : Nat} (hs : 98 ≤ s) : ∀ {m k : Nat} {f : TF}, (∀ i, k ≤ i → i < k + m → 0 ≤ g i ∧ g i < 4) → lieOk f → slT g S m k f s = f s
  | 0, _, _, _, _ => rfl
  | m + 1, k, f, hg, hf => by
    unfold slT
    have hk := hg k (by omega) (by omega)
    split
    · exact slT_hi hs (fun i a b => hg i (by omega) (by omega)) hf
    · split
      · exact slT_hi hs (fun i a b => hg i (by omega) (by omega)) hf
      · rw [slT_hi hs (fun i a b => hg i (by omega) (by omega)) (mvF_ok hk hf), mvF_hi hk hs hf]
def sm (u : Nat → Int) : Nat → Int
  | 0 => 0
  | n + 1 => sm u n + u n
theorem sm_2 {u : Nat → Int} : ∀ {n : Nat}, sm u (2 * n) = sm (fun t => u (2 * t) + u (2 * t + 1)) n
  | 0 => rfl
  | n + 1 => by
    rw [show 2 * (n + 1) = 2 * n + 1 + 1 by omega]
    unfold sm
    conv => lhs; unfold sm
    rw [sm_2 (n := n)]
    omega
theorem sm_lin {x y : Nat → Int} {a b : Int} : ∀ {n : Nat}, sm (fun t => a * x t + b * y t) n = a * sm x n + b * sm y n
  | 0 => by simp [sm]
  | n + 1 => by
    unfold sm
    rw [sm_lin (n := n), Int.mul_add, Int.mul_add]
    omega
theorem sm_congr {u v : Nat → Int} : ∀ {n : Nat}, (∀ t, t < n → u t = v t) → sm u n = sm v n
  | 0, _ => rfl
  | n + 1, h => by
    unfold sm
    rw [sm_congr (fun t ht => h t (by omega)), h n (by omega)]
def ws (val : TF → Int) (g : TF) (p : Int) : Nat → Nat → Nat → TF → Int
  | 0, _, _, f => val f
  | m + 1, k, t, f => if t % 2 = 1 then p * ws val g p m (k + 1) (t / 2) f else (12 - p) * ws val g p m (k + 1) (t / 2) (if barM f (g k) then f else mvF f (g k))
theorem ws_s {val : TF → Int} {g : TF} {p : Int} {m k t : Nat} {f : TF} : ws val g p (m + 1) k t f = if t % 2 = 1 then p * ws val g p m (k + 1) (t / 2) f else (12 - p) * ws val g p m (k + 1) (t / 2) (if barM f (g k) then f else mvF f (g k)) := rfl
theorem ws_sum {val : TF → Int} {g : TF} {p : Int} : ∀ {m k : Nat} {f : TF}, sm (fun t => ws val g p m k t f) (2 ^ m) = sw val g p m k f
  | 0, k, f => by
    show (0 : Int) + val f = val f
    omega
  | m + 1, k, f => by
    rw [show 2 ^ (m + 1) = 2 * 2 ^ m by rw [Nat.pow_succ, Nat.mul_comm], sm_2]
    have e : ∀ t, t < 2 ^ m → ws val g p (m + 1) k (2 * t) f + ws val g p (m + 1) k (2 * t + 1) f = p * ws val g p m (k + 1) t f + (12 - p) * ws val g p m (k + 1) t (if barM f (g k) then f else mvF f (g k)) := by
      intro t _
      rw [ws_s, ws_s, if_neg (show ¬ 2 * t % 2 = 1 by omega), if_pos (show (2 * t + 1) % 2 = 1 by omega), show 2 * t / 2 = t by omega, show (2 * t + 1) / 2 = t by omega]
      exact Int.add_comm _ _
    rw [sm_congr e, sm_lin, ws_sum, ws_sum]
    conv => rhs; unfold sw
    by_cases hb : barM f (g k)
    · rw [if_pos hb, if_pos hb, ← Int.add_mul]
      congr 1
      omega
    · rw [if_neg hb, if_neg hb]
theorem bt_nat0 : ∀ k : Nat, k < 8 → ∀ s : Nat, s < 256 → (bt (s : Int) k ↔ s / 2 ^ k % 2 = 1) := by decide +kernel
theorem cs_ws {val : TF → Int} {g : TF} {p : Int} {s : Nat} (hs : s < 256) : ∀ {m k : Nat} {a : Int} {f : TF}, k + m ≤ 8 → csW (s : Int) p m k a * val (slT g (s : Int) m k f) = a * ws val g p m k (s / 2 ^ k) f
  | 0, _, _, _, _ => rfl
  | m + 1, k, a, f, h => by
    have b := bt_nat0 k (by omega) s hs
    have e : s / 2 ^ k / 2 = s / 2 ^ (k + 1) := by rw [Nat.div_div_eq_div_mul, Nat.pow_succ]
    unfold csW slT ws
    rw [cs_ws hs (by omega), e]
    by_cases z : bt (s : Int) k
    · rw [if_pos z, if_pos z, if_pos (b.mp z), Int.mul_assoc]
    · rw [if_neg z, if_neg z, if_neg (fun q => z (b.mpr q)), Int.mul_assoc]
theorem sum_sw {val : TF → Int} {g : TF} {p : Int} {L : Nat} {f : TF} (hL : L ≤ 8) : sm (fun s => csW (s : Int) p L 0 1 * val (slT g (s : Int) L 0 f)) (2 ^ L) = sw val g p L 0 f := by
  have h2 : 2 ^ L ≤ 2 ^ 8 := Nat.pow_le_pow_right (by omega) hL
  rw [← ws_sum]
  exact sm_congr (fun s hs => by rw [cs_ws (by omega) (by omega), Int.one_mul]; simp)
theorem M_sl {d r L : Nat} {S p : Int} {h : AH} (hd : 3 ≤ d) (hr : r < 6) (hL : L ≤ 40) (hp : 0 ≤ p ∧ p ≤ 12) (h68 : h 68 r = (L : Int)) (hg : ∀ k, k < L → 0 ≤ h 67 (40 * r + k) ∧ h 67 (40 * r + k) < 4) : ∀ (m k : Nat) (a : Int) (f : TF) (N : Int) (l7 l8 : Option AV), k + m = L → tyOk f N → fixp l7 = l7 → ∀ Q, wp d 190 10 [some (.inr (.inr (some 63))), some (.inl (r : Int)), some (.inl S), some (.inl p), some (.inr (.inl a)), none, some (.inl (k : Int)), l7, l8] [] G1 (setR h 74 f) Q = Q (some (.inr (.inl (csW S p m k a)))) G1 (setR h 74 (slT (fun k => h 67 (40 * r + k)) S m k f)) := by
  have g0 := g1_63
  have g67 := g1_67
  have g68 := g1_68
  intro m
  induction m with
  | zero =>
    intro k a f N l7 l8 hk hf h7 Q
    obtain rfl : k = L := by omega
    conv => lhs; rw [X_190_10]
    conv => lhs; simp (disch := omega) only [X_190_0, X_190_1, X_190_3, X_190_4, X_190_7, X_190_8, X_190_12, X_190_13, X_190_16, X_190_17, X_190_18_t, X_190_18_f, X_190_18, X_190_21, X_190_22, X_190_24, X_190_25, X_190_26, X_190_27, X_190_28_t, X_190_28_f, X_190_28, X_190_31, X_190_32, X_190_35, X_190_36, X_190_38, X_190_39, X_190_42, X_190_44, X_190_45, X_190_46, X_190_48, X_190_49, X_190_50, X_190_52, X_190_54, X_190_56_t, X_190_56_f, X_190_56, X_190_59, X_190_60, X_190_61, X_190_64, X_190_66, X_190_67, X_190_68, X_190_69, X_190_70, X_190_72, X_190_74_t, X_190_74_f, X_190_74, X_190_77, X_190_78, X_190_81, X_190_83, X_190_86_t, X_190_86_f, X_190_86, X_190_89, X_190_90, X_190_93, X_190_95, X_190_98, X_190_101, X_190_104, X_190_106, r1_63_5, setR_n, Int.toNat_natCast, h68]
    rfl
  | succ m ih =>
    intro k a f N l7 l8 hk hf h7 Q
    have gi := hg k (by omega)
    have b1 := bAnd_1 (x := bShr S (k : Int))
    have lift : tyOk f (N + 1) := by
      obtain ⟨a1, a2, a3, a4, a5, a6, a7⟩ := hf
      exact ⟨a1, a2, a3, a4, a5, a6, by omega⟩
    have cB : ∀ Q, call d 146 [.inr (.inr (some 74)), .inl (h 67 (40 * r + k))] G1 (setR h 74 f) Q = if barM f (h 67 (40 * r + k)) then Q (some (.inl 1)) G1 (setR h 74 f) else Q (some (.inl 0)) G1 (setR h 74 f) := fun Q => by
      rw [S3_isBarred (by omega) (Or.inr rfl) gi (by rw [setR_s]; exact hf.1) (by rw [setR_s]; exact hf.2.2.1), setR_s]
    by_cases hb : bt S k
    · have e1 : csW S p (m + 1) k a = csW S p m (k + 1) (a * p) := by conv => lhs; unfold csW; rw [if_pos hb]
      have e2 : slT (fun k => h 67 (40 * r + k)) S (m + 1) k f = slT (fun k => h 67 (40 * r + k)) S m (k + 1) f := by conv => lhs; unfold slT; rw [if_pos hb]
      rw [e1, e2]
      refine Eq.trans ?_ (ih (k + 1) (a * p) f N (some (.inl 1)) (some (.inl (h 67 (40 * r + k)))) (by omega) hf rfl Q)
      conv => lhs; rw [X_190_10]
      conv => lhs; simp (disch := omega) only [X_190_0, X_190_1, X_190_3, X_190_4, X_190_7, X_190_8, X_190_12, X_190_13, X_190_16, X_190_17, X_190_18_t, X_190_18_f, X_190_18, X_190_21, X_190_22, X_190_24, X_190_25, X_190_26, X_190_27, X_190_28_t, X_190_28_f, X_190_28, X_190_31, X_190_32, X_190_35, X_190_36, X_190_38, X_190_39, X_190_42, X_190_44, X_190_45, X_190_46, X_190_48, X_190_49, X_190_50, X_190_52, X_190_54, X_190_56_t, X_190_56_f, X_190_56, X_190_59, X_190_60, X_190_61, X_190_64, X_190_66, X_190_67, X_190_68, X_190_69, X_190_70, X_190_72, X_190_74_t, X_190_74_f, X_190_74, X_190_77, X_190_78, X_190_81, X_190_83, X_190_86_t, X_190_86_f, X_190_86, X_190_89, X_190_90, X_190_93, X_190_95, X_190_98, X_190_101, X_190_104, X_190_106, r1_63_4, r1_63_5, setR_n, tn40, Int.toNat_natCast, h68, fixp_i, fixp_n, natS]
    · have e1 : csW S p (m + 1) k a = csW S p m (k + 1) (a * (12 - p)) := by conv => lhs; unfold csW; rw [if_neg hb]
      by_cases hbar : barM f (h 67 (40 * r + k))
      · have e2 : slT (fun k => h 67 (40 * r + k)) S (m + 1) k f = slT (fun k => h 67 (40 * r + k)) S m (k + 1) f := by conv => lhs; unfold slT; rw [if_neg hb, if_pos hbar]
        rw [e1, e2]
        refine Eq.trans ?_ (ih (k + 1) (a * (12 - p)) f N (some (.inl 0)) (some (.inl (h 67 (40 * r + k)))) (by omega) hf rfl Q)
        conv => lhs; rw [X_190_10]
        conv => lhs; simp (disch := omega) only [X_190_0, X_190_1, X_190_3, X_190_4, X_190_7, X_190_8, X_190_12, X_190_13, X_190_16, X_190_17, X_190_18_t, X_190_18_f, X_190_18, X_190_21, X_190_22, X_190_24, X_190_25, X_190_26, X_190_27, X_190_28_t, X_190_28_f, X_190_28, X_190_31, X_190_32, X_190_35, X_190_36, X_190_38, X_190_39, X_190_42, X_190_44, X_190_45, X_190_46, X_190_48, X_190_49, X_190_50, X_190_52, X_190_54, X_190_56_t, X_190_56_f, X_190_56, X_190_59, X_190_60, X_190_61, X_190_64, X_190_66, X_190_67, X_190_68, X_190_69, X_190_70, X_190_72, X_190_74_t, X_190_74_f, X_190_74, X_190_77, X_190_78, X_190_81, X_190_83, X_190_86_t, X_190_86_f, X_190_86, X_190_89, X_190_90, X_190_93, X_190_95, X_190_98, X_190_101, X_190_104, X_190_106, r1_63_4, r1_63_5, r1_63_15, setR_n, tn40, Int.toNat_natCast, h68, cB, if_pos hbar, pushR_some, fixp_i, fixp_n, natS]
      · have e2 : slT (fun k => h 67 (40 * r + k)) S (m + 1) k f = slT (fun k => h 67 (40 * r + k)) S m (k + 1) (mvF f (h 67 (40 * r + k))) := by conv => lhs; unfold slT; rw [if_neg hb, if_neg hbar]
        have cG : ∀ Q, call d 147 [.inr (.inr (some 74)), .inl (h 67 (40 * r + k))] G1 (setR h 74 f) Q = Q none G1 (setR h 74 (mvF f (h 67 (40 * r + k)))) := fun Q => by
          rw [S3_goMove (by omega) (Or.inr rfl) gi (by rw [setR_s]; exact hf.1), setR_s, setR_2]
        rw [e1, e2]
        refine Eq.trans ?_ (ih (k + 1) (a * (12 - p)) (mvF f (h 67 (40 * r + k))) (N + 1) (some (.inl 0)) (some (.inl (h 67 (40 * r + k)))) (by omega) (mvF_ty gi hf) rfl Q)
        conv => lhs; rw [X_190_10]
        conv => lhs; simp (disch := omega) only [X_190_0, X_190_1, X_190_3, X_190_4, X_190_7, X_190_8, X_190_12, X_190_13, X_190_16, X_190_17, X_190_18_t, X_190_18_f, X_190_18, X_190_21, X_190_22, X_190_24, X_190_25, X_190_26, X_190_27, X_190_28_t, X_190_28_f, X_190_28, X_190_31, X_190_32, X_190_35, X_190_36, X_190_38, X_190_39, X_190_42, X_190_44, X_190_45, X_190_46, X_190_48, X_190_49, X_190_50, X_190_52, X_190_54, X_190_56_t, X_190_56_f, X_190_56, X_190_59, X_190_60, X_190_61, X_190_64, X_190_66, X_190_67, X_190_68, X_190_69, X_190_70, X_190_72, X_190_74_t, X_190_74_f, X_190_74, X_190_77, X_190_78, X_190_81, X_190_83, X_190_86_t, X_190_86_f, X_190_86, X_190_89, X_190_90, X_190_93, X_190_95, X_190_98, X_190_101, X_190_104, X_190_106, r1_63_4, r1_63_5, r1_63_15, setR_n, tn40, Int.toNat_natCast, h68, cB, if_neg hbar, cG, pushR_some, pushR_none, fixp_i, fixp_n, natS]
theorem S3_slips {d r L : Nat} {S p N : Int} {h : AH} {F0 : TF} {Q : Option AV → AG → AH → Prop} (hd : 4 ≤ d) (hr : r < 6) (hL : L ≤ 40) (hp : 0 ≤ p ∧ p ≤ 12) (h68 : h 68 r = (L : Int)) (hg : ∀ k, k < L → 0 ≤ h 67 (40 * r + k) ∧ h 67 (40 * r + k) < 4) (hf : tyOk (h 64) N) (hz : ∀ s, 98 ≤ s → F0 s = h 64 s) : call d 190 [.inr (.inr (some 63)), .inl (r : Int), .inl S, .inl p] G1 (setR h 74 F0) Q = Q (some (.inr (.inl (csW S p L 0 1)))) G1 (setR h 74 (slT (fun k => h 67 (40 * r + k)) S L 0 (h 64))) := by
  obtain ⟨d, rfl, hd2⟩ := pos_of hd
  have g0 := g1_63
  have cH : ∀ Q, call d 164 [.inr (.inr (some 63))] G1 (setR h 74 F0) Q = Q none G1 (setR h 74 (h 64)) := fun Q => by
    rw [S3_layHand (by omega) (fun s hs => by rw [setR_s, setR_n (by omega)]; exact hz s hs), setR_n (by omega), setR_2]
  rw [C_190]
  simp (disch := omega) only [X_190_0, X_190_1, X_190_3, X_190_4, X_190_7, X_190_8, X_190_12, X_190_13, X_190_16, X_190_17, X_190_18_t, X_190_18_f, X_190_18, X_190_21, X_190_22, X_190_24, X_190_25, X_190_26, X_190_27, X_190_28_t, X_190_28_f, X_190_28, X_190_31, X_190_32, X_190_35, X_190_36, X_190_38, X_190_39, X_190_42, X_190_44, X_190_45, X_190_46, X_190_48, X_190_49, X_190_50, X_190_52, X_190_54, X_190_56_t, X_190_56_f, X_190_56, X_190_59, X_190_60, X_190_61, X_190_64, X_190_66, X_190_67, X_190_68, X_190_69, X_190_70, X_190_72, X_190_74_t, X_190_74_f, X_190_74, X_190_77, X_190_78, X_190_81, X_190_83, X_190_86_t, X_190_86_f, X_190_86, X_190_89, X_190_90, X_190_93, X_190_95, X_190_98, X_190_101, X_190_104, X_190_106, cH, pushR_none, fixp_i, fixp_n, fixp_l]
  exact M_sl hd2 hr hL hp h68 hg L 0 1 (h 64) N none none (by omega) hf rfl Q
theorem S3_whole {d L : Nat} {h : AH} {Q : Option AV → AG → AH → Prop} (hd : 1 ≤ d) (hL : L ≤ 40) : call d 191 [.inl (L : Int)] G1 h Q = Q (some (.inr (.inl ((12 : Int) ^ L)))) G1 h := by
  obtain ⟨d, rfl, hd2⟩ := pos_of hd
  have Lp : ∀ (m i : Nat), i + m = L → wp d 191 4 [some (.inl (L : Int)), some (.inr (.inl ((12 : Int) ^ i))), none, some (.inl (i : Int))] [] G1 h Q = Q (some (.inr (.inl ((12 : Int) ^ L)))) G1 h := by
    intro m
    induction m with
    | zero =>
      intro i hi
      obtain rfl : i = L := by omega
      simp (disch := omega) only [X_191_4, X_191_0, X_191_1, X_191_2, X_191_3, X_191_5, X_191_6_t, X_191_6_f, X_191_6, X_191_9, X_191_10, X_191_13, X_191_14, X_191_15, X_191_18, X_191_21, X_191_22]
    | succ m ih =>
      intro i hi
      rw [← ih (i + 1) (by omega), Int.pow_succ]
      conv => lhs; rw [X_191_4]
      conv => lhs; simp (disch := omega) only [X_191_0, X_191_1, X_191_2, X_191_3, X_191_5, X_191_6_t, X_191_6_f, X_191_6, X_191_9, X_191_10, X_191_13, X_191_14, X_191_15, X_191_18, X_191_21, X_191_22, fixp_i, fixp_n, natS]
  rw [C_191]
  simp (disch := omega) only [X_191_0, X_191_1, X_191_2, X_191_3, X_191_5, X_191_6_t, X_191_6_f, X_191_6, X_191_9, X_191_10, X_191_13, X_191_14, X_191_15, X_191_18, X_191_21, X_191_22, fixp_i, fixp_n, fixp_l]
  exact Lp L 0 (by omega)
theorem S3_frac {d : Nat} {A B : Int} {h : AH} {Q : Option AV → AG → AH → Prop} (hd : 1 ≤ d) (hA : 0 ≤ A ∧ A ≤ 9000000000) (hB : 0 < B ∧ B ≤ 9000000000) : call d 189 [.inr (.inr (some 63)), .inr (.inl A), .inr (.inl B)] G1 h Q = Q none G1 (put (put h 63 11 (A / euF 200 A B)) 63 12 (B / euF 200 A B)) := by
  obtain ⟨d, rfl, hd2⟩ := pos_of hd
  have g0 := g1_63
  have h100 : (9000000001 : Int) ≤ 2 ^ 100 := by decide
  have L : ∀ (n : Nat) (a b : Int) (l9 : Option AV), tmF n a b → 0 ≤ a ∧ a ≤ 9000000000 → 0 ≤ b ∧ b ≤ 9000000000 → (0 < a ∨ 0 < b) → wp d 189 17 [some (.inr (.inr (some 63))), some (.inr (.inl A)), none, some (.inr (.inl B)), none, some (.inr (.inl a)), none, some (.inr (.inl b)), none, l9, none] [] G1 h Q = Q none G1 (put (put h 63 11 (A / euF n a b)) 63 12 (B / euF n a b)) := by
    intro n
    induction n with
    | zero =>
      intro a b l9 ht ha hb h0
      have e : b = 0 := ht
      have e0 : euF 0 a b = a := rfl
      rw [e0]
      conv => lhs; rw [X_189_17]
      conv => lhs; simp (disch := omega) only [X_189_0, X_189_1, X_189_2, X_189_3_t, X_189_3_f, X_189_3, X_189_6, X_189_7, X_189_8, X_189_11, X_189_12, X_189_14, X_189_15, X_189_19, X_189_20, X_189_21_t, X_189_21_f, X_189_21, X_189_24, X_189_26, X_189_28, X_189_29, X_189_31, X_189_33, X_189_35, X_189_37, X_189_39, X_189_42, X_189_43, X_189_44, X_189_46, X_189_47, X_189_50, X_189_51, X_189_52, X_189_54, X_189_55, X_189_58]
    | succ n ih =>
      intro a b l9 ht ha hb h0
      by_cases e : b = 0
      · have e1 : euF (n + 1) a b = a := by unfold euF; rw [if_pos e]
        rw [e1]
        conv => lhs; rw [X_189_17]
        conv => lhs; simp (disch := omega) only [X_189_0, X_189_1, X_189_2, X_189_3_t, X_189_3_f, X_189_3, X_189_6, X_189_7, X_189_8, X_189_11, X_189_12, X_189_14, X_189_15, X_189_19, X_189_20, X_189_21_t, X_189_21_f, X_189_21, X_189_24, X_189_26, X_189_28, X_189_29, X_189_31, X_189_33, X_189_35, X_189_37, X_189_39, X_189_42, X_189_43, X_189_44, X_189_46, X_189_47, X_189_50, X_189_51, X_189_52, X_189_54, X_189_55, X_189_58]
      · have e1 : euF (n + 1) a b = euF n b (a % b) := by conv => lhs; unfold euF; rw [if_neg e]
        have r1 := Int.emod_nonneg a e
        have r2 := Int.emod_lt_of_pos a (show 0 < b by omega)
        rw [e1]
        refine Eq.trans ?_ (ih b (a % b) (some (.inr (.inl (a % b)))) (ht.resolve_left e) hb (by omega) (Or.inl (by omega)))
        conv => lhs; rw [X_189_17]
        conv => lhs; simp (disch := omega) only [X_189_0, X_189_1, X_189_2, X_189_3_t, X_189_3_f, X_189_3, X_189_6, X_189_7, X_189_8, X_189_11, X_189_12, X_189_14, X_189_15, X_189_19, X_189_20, X_189_21_t, X_189_21_f, X_189_21, X_189_24, X_189_26, X_189_28, X_189_29, X_189_31, X_189_33, X_189_35, X_189_37, X_189_39, X_189_42, X_189_43, X_189_44, X_189_46, X_189_47, X_189_50, X_189_51, X_189_52, X_189_54, X_189_55, X_189_58, fixp_n, fixp_i, fixp_l]
  rw [C_189]
  simp (disch := omega) only [X_189_0, X_189_1, X_189_2, X_189_3_t, X_189_3_f, X_189_3, X_189_6, X_189_7, X_189_8, X_189_11, X_189_12, X_189_14, X_189_15, X_189_19, X_189_20, X_189_21_t, X_189_21_f, X_189_21, X_189_24, X_189_26, X_189_28, X_189_29, X_189_31, X_189_33, X_189_35, X_189_37, X_189_39, X_189_42, X_189_43, X_189_44, X_189_46, X_189_47, X_189_50, X_189_51, X_189_52, X_189_54, X_189_55, X_189_58, fixp_i, fixp_n, fixp_l]
  exact L 200 A B none (tm_ok 100 A B hA.1 (by omega) (by omega)) hA (by omega) (Or.inr hB.1)
