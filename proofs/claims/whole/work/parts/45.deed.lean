/-! 45: rows behind deeds; turn, exchange -/
theorem lieOk_put {f : TF} {s : Nat} {v : Int} (hs : 28 ≤ s ∧ s < 69) (hf : lieOk f) : lieOk (putR f s v) := by
  refine ⟨fun c hc => ?_, fun c hc e he q => ?_⟩
  · rw [putR_n (by omega)]; exact hf.1 c hc
  · rw [putR_n (by omega), putR_n (by omega)] at q; exact hf.2 c hc e he q
theorem tyOk_put {f : TF} {s : Nat} {v N : Int} (hs : 28 ≤ s ∧ s < 69) (hf : tyOk f N) : tyOk (putR f s v) N := by
  obtain ⟨a1, a2, a3, a4, a5, a6, a7⟩ := hf
  refine ⟨lieOk_put hs a1, fun i hi => ?_, fun i hi => ?_, fun i hi => ?_, fun i hi => ?_, ?_, ?_⟩
  · obtain ⟨c, hc, e⟩ := a2 i hi
    exact ⟨c, hc, by rw [putR_n (by omega)]; exact e⟩
  · rw [putR_n (by omega)]; exact a3 i hi
  · rw [putR_n (by omega)]; exact a4 i hi
  · rw [putR_n (by omega), putR_n (by omega)]; exact a5 i hi
  · rw [putR_n (by omega)]; exact a6
  · rw [putR_n (by omega)]; exact a7
theorem TR_put {h : AH} {t s : Nat} {f : TF} {v : Int} (hs : 28 ≤ s ∧ s < 69) (hT : TR h t f) : TR h t (putR f s v) := TR_cong hT (fun k hk => putR_n (by omega)) (fun c hc => putR_n (by omega)) (fun c hc => putR_n (by omega)) (putR_n (by omega))
theorem inc_put {f : TF} {s : Nat} {v i : Int} (hs : 28 ≤ s ∧ s < 69) : inc (putR f s v) i = inc f i := by
  unfold inc
  rw [putR_n (show ¬ 69 = s by omega), putR_n (show ¬ 77 = s by omega), putR_n (show ¬ 78 = s by omega), putR_n (show ¬ 79 = s by omega), putR_n (show ¬ 73 = s by omega), putR_n (show ¬ 80 = s by omega), putR_n (show ¬ 81 = s by omega), putR_n (show ¬ 82 = s by omega)]
theorem mvF_put {f : TF} {s0 : Nat} {v m : Int} (hm : 0 ≤ m ∧ m < 4) (hs : 28 ≤ s0 ∧ s0 < 69) (hf : lieOk f) : mvF (putR f s0 v) m = putR (mvF f m) s0 v := by
  have hf2 := lieOk_put (v := v) hs hf
  funext s
  by_cases h1 : s < 69
  · rw [mvF_lo hm h1 hf2]
    by_cases e : s = s0
    · subst e; rw [putR_s, putR_s]
    · rw [putR_n e, putR_n e, mvF_lo hm h1 hf]
  · rw [putR_n (by omega)]
    by_cases h2 : s < 83
    · obtain ⟨c, rfl⟩ : ∃ c, s = 69 + c := ⟨s - 69, by omega⟩
      rw [mvF_lie hm (by omega) hf2, mvF_lie hm (by omega) hf, putR_n (by omega)]
    · by_cases h3 : s < 97
      · obtain ⟨c, rfl⟩ : ∃ c, s = 83 + c := ⟨s - 83, by omega⟩
        rw [mvF_brn hm (by omega) hf2, mvF_brn hm (by omega) hf, putR_n (by omega), inc_put hs]
      · by_cases h4 : s = 97
        · subst h4; rw [mvF_97 hm, mvF_97 hm, putR_n (by omega)]
        · rw [mvF_hi hm (by omega) hf2, mvF_hi hm (by omega) hf, putR_n (by omega)]
theorem putR_c {f : TF} {a b : Nat} {v w : Int} (h : ¬ a = b) : putR (putR f a v) b w = putR (putR f b w) a v := by
  funext s
  unfold putR
  by_cases e1 : s = a
  · subst e1; rw [if_neg h, if_pos rfl, if_pos rfl]
  · rw [if_neg e1, if_neg e1]
theorem exF_put {f : TF} {c e s0 : Nat} {v : Int} (hc : c < 14) (he : e < 14) (hs : 28 ≤ s0 ∧ s0 < 69) : exF (putR f s0 v) c e = putR (exF f c e) s0 v := by
  unfold exF
  rw [putR_n (show ¬ 69 + e = s0 by omega), putR_n (show ¬ 69 + c = s0 by omega), putR_c (a := s0) (b := 69 + c) (by omega), putR_c (a := s0) (b := 69 + e) (by omega)]
theorem dF_put {f : TF} {s0 : Nat} {v x : Int} (hx : dOk x) (hs : 28 ≤ s0 ∧ s0 < 69) (hf : lieOk f) : dF (putR f s0 v) x = putR (dF f x) s0 v := by
  unfold dOk at hx
  unfold dF
  by_cases h1 : 100 ≤ x
  · rw [if_pos h1, if_pos h1]
    exact exF_put (by omega) (by omega) hs
  · rw [if_neg h1, if_neg h1]
    by_cases h2 : x = 4
    · rw [if_pos h2, if_pos h2]
    · rw [if_neg h2, if_neg h2]
      exact mvF_put (by omega) hs hf
theorem bgF_put {f : TF} {s0 : Nat} {v : Int} (hs : 28 ≤ s0 ∧ s0 < 69) : bgF (putR f s0 v) = putR (bgF f) s0 v := by
  funext s
  by_cases h1 : s < 69 ∨ 98 ≤ s
  · rw [bgF_n h1]
    by_cases e : s = s0
    · subst e; rw [putR_s, putR_s]
    · rw [putR_n e, putR_n e, bgF_n h1]
  · rw [putR_n (by omega)]
    unfold bgF
    by_cases h2 : 69 ≤ s ∧ s < 83
    · rw [if_pos h2, if_pos h2]
    · rw [if_neg h2, if_neg h2, if_pos (by omega), if_pos (by omega)]
theorem rp_lo {f : TF} : ∀ {n : Nat}, (∀ k, k < n → dOk (f (29 + k))) → lieOk (rp f n) ∧ ∀ s, (s < 69 ∨ 98 ≤ s) → rp f n s = f s
  | 0, _ => ⟨bgF_ok, fun s hs => bgF_n hs⟩
  | n + 1, h => by
    obtain ⟨a, b⟩ := rp_lo (f := f) (n := n) (fun k hk => h k (by omega))
    exact ⟨dF_ok (h n (by omega)) a, fun s hs => by show dF (rp f n) (f (29 + n)) s = f s; rw [dF_n (h n (by omega)) a hs, b s hs]⟩
theorem rp_base {f g : TF} (h : ∀ s, (s < 69 ∨ 98 ≤ s) → f s = g s) : ∀ {n : Nat}, n ≤ 40 → rp f n = rp g n
  | 0, _ => by
    show bgF f = bgF g
    funext s
    by_cases h1 : s < 69 ∨ 98 ≤ s
    · rw [bgF_n h1, bgF_n h1, h s h1]
    · unfold bgF
      by_cases h2 : 69 ≤ s ∧ s < 83
      · rw [if_pos h2, if_pos h2]
      · rw [if_neg h2, if_neg h2, if_pos (by omega), if_pos (by omega)]
  | n + 1, hn => by
    show dF (rp f n) (f (29 + n)) = dF (rp g n) (g (29 + n))
    rw [rp_base h (n := n) (by omega), h (29 + n) (by omega)]
theorem rp_put {f : TF} {s0 : Nat} {v : Int} : ∀ {n : Nat}, (s0 = 28 ∨ (29 + n ≤ s0 ∧ s0 < 69)) → (∀ k, k < n → dOk (f (29 + k))) → rp (putR f s0 v) n = putR (rp f n) s0 v
  | 0, hs, _ => bgF_put (by omega)
  | n + 1, hs, h => by
    show dF (rp (putR f s0 v) n) (putR f s0 v (29 + n)) = putR (dF (rp f n) (f (29 + n))) s0 v
    rw [putR_n (by omega), rp_put (n := n) (by omega) (fun k hk => h k (by omega)), dF_put (h n (by omega)) (by omega) (rp_lo (fun k hk => h k (by omega))).1]
theorem rp_ty {f : TF} (h1 : ∀ i, i < 14 → 0 ≤ f i ∧ f i ≤ 5) (h2 : ∀ i, i < 14 → 0 ≤ f (14 + i) ∧ f (14 + i) ≤ 9) : ∀ {n : Nat}, (∀ k, k < n → dOk (f (29 + k))) → tyOk (rp f n) (n : Int)
  | 0, _ => bgF_ty h1 h2
  | n + 1, h => by
    have q := dF_ty (h n (by omega)) (rp_ty h1 h2 (n := n) (fun k hk => h k (by omega)))
    exact q
theorem DR_ok {h : AH} {t : Nat} {f : TF} (H : DR h t f) {n : Nat} (hn : (n : Int) ≤ f 28) : ∀ k, k < n → dOk (f (29 + k)) := fun k hk => by
  have := H.2.2.2 k (by omega)
  rw [this.2]
  exact cd_ok this.1
/-- the row behind one deed more -/
def ddF (f : TF) (y : Int) : TF := putR (putR (dF f y) (29 + (f 28).toNat) y) 28 (f 28 + 1)
theorem S3_does {d : Nat} {y : Int} {h : AH} {Q : Option AV → AG → AH → Prop} (hd : 4 ≤ d) (hy : dOk y) (hn : 0 ≤ h 64 28 ∧ h 64 28 < 40) (hf : lieOk (h 64)) : call d 150 [.inr (.inr (some 63)), .inl y] G1 h Q = Q none G1 (setR h 64 (ddF (h 64) y)) := by
  obtain ⟨d, rfl, hd2⟩ := pos_of hd
  have g0 := g1_63
  have g64 := g1_64
  have e1 : (29 + h 64 28).toNat = 29 + (h 64 28).toNat := by omega
  have p1 : lieOk (putR (h 64) (29 + (h 64 28).toNat) y) := lieOk_put (by omega) hf
  have p2 : lieOk (putR (putR (h 64) (29 + (h 64 28).toNat) y) 28 (h 64 28 + 1)) := lieOk_put (by omega) p1
  have p3 : putR (h 64) (29 + (h 64 28).toNat) y 28 = h 64 28 := putR_n (by omega)
  generalize e2 : setR h 64 (putR (putR (h 64) (29 + (h 64 28).toNat) y) 28 (h 64 28 + 1)) = h2
  have w64 : h2 64 = putR (putR (h 64) (29 + (h 64 28).toNat) y) 28 (h 64 28 + 1) := by rw [← e2, setR_s]
  have cG : ∀ Q, call d 149 [.inr (.inr (some 64)), .inl y] G1 h2 Q = Q none G1 (setR h 64 (ddF (h 64) y)) := fun Q => by
    rw [S3_goDeed hd2 (Or.inl rfl) hy (by rw [w64]; exact p2), w64, dF_put hy (by omega) p1, dF_put hy (by omega) hf, ← e2, setR_2]
    rfl
  rw [C_150]
  simp (disch := omega) only [X_150_0, X_150_1, X_150_4, X_150_6, X_150_7, X_150_10, X_150_12, X_150_13, X_150_14, X_150_15, X_150_16, X_150_17, X_150_20, X_150_22, X_150_23, X_150_24, X_150_25, X_150_26, X_150_27, X_150_28, X_150_31, X_150_32, X_150_35, r1_63_0, Int.reduceToNat, e1, put_set, setR_s, setR_2, p3, e2, cG, pushR_none]
theorem FUL_deed {h h' : AH} {t : Nat} {f : TF} {x : Int} (H : FUL h t f) (hn : f 28 < 40) (hx : xOk x) (hT : TR h' t (dF f (cd x))) (h6 : h' (t + 6) = putR (h (t + 6)) (h t 7).toNat x) (h7 : h' t 7 = h t 7 + 1) : FUL h' t (ddF f (cd x)) := by
  obtain ⟨a1, a2, a3, a4⟩ := H
  have hy := cd_ok hx
  have b1 := a3.1
  have b2 := a3.2.1
  have ok := DR_ok a3 (n := (f 28).toNat) (by omega)
  have z28 : ddF f (cd x) 28 = f 28 + 1 := putR_s
  have zn : ddF f (cd x) (29 + (f 28).toNat) = cd x := by unfold ddF; rw [putR_n (by omega), putR_s]
  refine ⟨TR_put (by omega) (TR_put (by omega) hT), ?_, ⟨by rw [h7, z28, b1], by rw [z28]; omega, by rw [z28]; omega, fun k hk => ?_⟩, ?_⟩
  · rw [z28]
    exact tyOk_put (by omega) (tyOk_put (by omega) (dF_ty hy a2))
  · rw [z28] at hk
    rw [h6, b1]
    by_cases e : k = (f 28).toNat
    · subst e
      rw [putR_s, zn]
      exact ⟨hx, rfl⟩
    · have q := a3.2.2.2 k (by omega)
      rw [putR_n e]
      refine ⟨q.1, ?_⟩
      unfold ddF
      rw [putR_n (by omega), putR_n (by omega), dF_n hy a2.1 (by omega), q.2]
  · unfold HI at a4 ⊢
    rw [z28, show (f 28 + 1).toNat = (f 28).toNat + 1 by omega]
    show dF (rp (ddF f (cd x)) (f 28).toNat) (ddF f (cd x) (29 + (f 28).toNat)) = ddF f (cd x)
    have e1 : rp (ddF f (cd x)) (f 28).toNat = putR (putR f (29 + (f 28).toNat) (cd x)) 28 (f 28 + 1) := by
      have e2 : rp (ddF f (cd x)) (f 28).toNat = rp (putR (putR f (29 + (f 28).toNat) (cd x)) 28 (f 28 + 1)) (f 28).toNat := rp_base (fun s hs => by
        unfold ddF putR
        rw [dF_n hy a2.1 hs]) (by have := a3.2.2.1; omega)
      rw [e2, rp_put (Or.inl rfl) (fun k hk => by rw [putR_n (by omega)]; exact ok k hk), rp_put (Or.inr (by omega)) ok, a4]
    rw [e1, zn, dF_put hy (by omega) (lieOk_put (by omega) a2.1), dF_put hy (by omega) a2.1]
    rfl
theorem INV_live {n : Nat} {h h' : AH} (H : INV n h) (e : ∀ a, ¬ (3 ≤ a ∧ a < 10) → ¬ a = 64 → h' a = h a) (L1 : h 63 1 = 1) (e8 : h' 3 8 = 1) (HF : FUL h' 3 (h' 64)) (hz : ∀ s, 98 ≤ s → h' 64 s = 0) : INV n h' := by
  have e63 : h' 63 = h 63 := e 63 (by omega) (by omega)
  refine INV_toy H (fun a _ a1 a2 => e a a1 (by omega)) (fun k _ => by rw [e63]) (fun s hs => by rw [e 74 (by omega) (by omega)]; exact H.2.1 s hs) ⟨?_, ?_, Or.inr ⟨?_, HF⟩, hz⟩ (fun k hk => KPT_k hk (fun a ha => e a (by omega) (by omega)) (by rw [e63]) (e 65 (by omega) (by omega)) (e 66 (by omega) (by omega)) (H.2.2.2.2.2.1 k hk))
  · rw [e8, e63, L1]
  · exact HF.2.2.1.1
  · rw [e63, L1]
theorem ddF_hi {f : TF} {y : Int} {s : Nat} (hy : dOk y) (hf : lieOk f) (hn : 0 ≤ f 28 ∧ f 28 < 40) (hs : 98 ≤ s) : ddF f y s = f s := by
  unfold ddF
  rw [putR_n (by omega), putR_n (by omega), dF_n hy hf (by omega)]
/-- one deed on both sides -/
theorem deed2 {n d : Nat} {h : AH} {x : Int} (hd : 4 ≤ d) (H : INV n h) (L1 : h 63 1 = 1) (L2 : h 3 8 = 1) (L3 : FUL h 3 (h 64)) (hn : h 64 28 < 40) (hx : xOk x) : ∃ h1, (∀ Q, call d 31 [.inr (.inr (some 3)), .inl x] G1 h Q = Q none G1 h1) ∧ h1 64 = h 64 ∧ h1 63 = h 63 ∧ h1 1000 = h 1000 ∧ TR h1 3 (dF (h 64) (cd x)) ∧ h1 3 8 = 1 ∧ (∀ a, ¬ (3 ≤ a ∧ a < 10) → h1 a = h a) ∧ h1 9 = putR (h 9) (h 3 7).toNat x ∧ h1 3 7 = h 3 7 + 1 ∧ INV n (setR h1 64 (ddF (h 64) (cd x))) ∧ FUL (setR h1 64 (ddF (h 64) (cd x))) 3 (ddF (h 64) (cd x)) := by
  have t3 : isToy 3 := Or.inl rfl
  have b := L3.2.2.1
  have b1 := b.1
  have b2 := b.2.1
  obtain ⟨h1, c1, T1, F1, F2, F3, F4⟩ := S_doDeed (d := d) (t := 3) (x := x) (h := h) (f := h 64) hd t3 H.1 hx (by omega) L3.1 L3.2.1.1
  have fo : ∀ a, ¬ (3 ≤ a ∧ a < 10) → h1 a = h a := fun a ha => F1 a (by omega)
  have HF : FUL (setR h1 64 (ddF (h 64) (cd x))) 3 (ddF (h 64) (cd x)) := FUL_k (h := h1) (fun a ha => setR_n (by omega)) (FUL_deed L3 hn hx T1 F2 F3)
  refine ⟨h1, c1, fo 64 (by omega), fo 63 (by omega), fo 1000 (by omega), T1, by rw [F4 8 (by omega) (by omega), L2], fo, F2, F3, INV_live H (fun a a1 a2 => by rw [setR_n a2, fo a a1]) L1 (by rw [setR_n (by omega), F4 8 (by omega) (by omega), L2]) (by rw [setR_s]; exact HF) (fun s hs => by rw [setR_s, ddF_hi (cd_ok hx) L3.2.1.1 (by omega) hs]; exact H.2.2.2.2.1.2.2.2 s hs), HF⟩
theorem Op_turn {x : Int} (h_x : -2147483648 ≤ x ∧ x < 2147483648) : OpI 52 159 [.inl x] := by
  intro n h H hn
  have g0 := g1_0
  have g3 := g1_3
  have g63 := g1_63
  have g64 := g1_64
  have t3 : isToy 3 := Or.inl rfl
  rcases LIV_c H with L | L
  · refine OpI_same (r := -4) (by omega) H (fun Q => ?_) (fun Q => ?_)
    · rw [C_52]
      simp (disch := omega) only [X_52_0, X_52_1, X_52_4, X_52_7_t, X_52_7_f, X_52_7, X_52_10, X_52_12, X_52_13, X_52_14, X_52_17_t, X_52_17_f, X_52_17, X_52_20, X_52_21, X_52_22, X_52_23, X_52_26, X_52_27, X_52_30_t, X_52_30_f, X_52_30, X_52_33, X_52_35, X_52_36, X_52_37, X_52_40, X_52_43, X_52_45_t, X_52_45_f, X_52_45, X_52_48, X_52_50, X_52_51, X_52_52, X_52_55, X_52_56, X_52_59, X_52_60, X_52_63, X_52_64, X_52_67, r1_0_2]
    · rw [C_159]
      simp (disch := omega) only [X_159_0, X_159_1, X_159_4_t, X_159_4_f, X_159_4, X_159_7, X_159_9, X_159_10, X_159_11, X_159_14_t, X_159_14_f, X_159_14, X_159_17, X_159_18, X_159_19, X_159_20, X_159_23, X_159_24, X_159_27_t, X_159_27_f, X_159_27, X_159_30, X_159_32, X_159_33, X_159_34, X_159_37, X_159_39, X_159_40, X_159_42_t, X_159_42_f, X_159_42, X_159_45, X_159_47, X_159_48, X_159_49, X_159_50, X_159_53, X_159_54, X_159_57, X_159_58, X_159_61]
  obtain ⟨L1, L2, L3⟩ := L
  by_cases h1 : 0 ≤ x ∧ x < 4
  case neg =>
    refine OpI_same (r := -1) (by omega) H (fun Q => ?_) (fun Q => ?_)
    · rw [C_52]
      simp (disch := omega) only [X_52_0, X_52_1, X_52_4, X_52_7_t, X_52_7_f, X_52_7, X_52_10, X_52_12, X_52_13, X_52_14, X_52_17_t, X_52_17_f, X_52_17, X_52_20, X_52_21, X_52_22, X_52_23, X_52_26, X_52_27, X_52_30_t, X_52_30_f, X_52_30, X_52_33, X_52_35, X_52_36, X_52_37, X_52_40, X_52_43, X_52_45_t, X_52_45_f, X_52_45, X_52_48, X_52_50, X_52_51, X_52_52, X_52_55, X_52_56, X_52_59, X_52_60, X_52_63, X_52_64, X_52_67, r1_0_2, S_isMove_f, pushR_some]
    · rw [C_159]
      simp (disch := omega) only [X_159_0, X_159_1, X_159_4_t, X_159_4_f, X_159_4, X_159_7, X_159_9, X_159_10, X_159_11, X_159_14_t, X_159_14_f, X_159_14, X_159_17, X_159_18, X_159_19, X_159_20, X_159_23, X_159_24, X_159_27_t, X_159_27_f, X_159_27, X_159_30, X_159_32, X_159_33, X_159_34, X_159_37, X_159_39, X_159_40, X_159_42_t, X_159_42_f, X_159_42, X_159_45, X_159_47, X_159_48, X_159_49, X_159_50, X_159_53, X_159_54, X_159_57, X_159_58, X_159_61, S3_isMove_f, pushR_some]
  have hf := FUL_ty L3
  have hT := L3.1
  have b := L3.2.2.1
  have b1 := b.1
  have b2 := b.2.1
  have b3 := b.2.2.1
  have cb : ∀ Q, call 29 24 [.inr (.inr (some 3)), .inl x] G1 h Q = if barM (h 64) x then Q (some (.inl 1)) G1 h else Q (some (.inl 0)) G1 h := fun Q => S_bars (by omega) t3 h1 hT hf.1 hf.2.2.1
  have cm : ∀ (h' : AH) Q, h' 64 = h 64 → call 29 146 [.inr (.inr (some 64)), .inl x] G1 h' Q = if barM (h 64) x then Q (some (.inl 1)) G1 h' else Q (some (.inl 0)) G1 h' := fun h' Q e => by rw [S3_isBarred (by omega) (Or.inl rfl) h1 (by rw [e]; exact hf.1) (by rw [e]; exact hf.2.2.1), e]
  by_cases hb : barM (h 64) x
  · refine OpI_same (r := -4) (by omega) H (fun Q => ?_) (fun Q => ?_)
    · rw [C_52]
      simp (disch := omega) only [X_52_0, X_52_1, X_52_4, X_52_7_t, X_52_7_f, X_52_7, X_52_10, X_52_12, X_52_13, X_52_14, X_52_17_t, X_52_17_f, X_52_17, X_52_20, X_52_21, X_52_22, X_52_23, X_52_26, X_52_27, X_52_30_t, X_52_30_f, X_52_30, X_52_33, X_52_35, X_52_36, X_52_37, X_52_40, X_52_43, X_52_45_t, X_52_45_f, X_52_45, X_52_48, X_52_50, X_52_51, X_52_52, X_52_55, X_52_56, X_52_59, X_52_60, X_52_63, X_52_64, X_52_67, r1_0_2, S_isMove_t, cb, if_pos hb, pushR_some]
    · have cm2 := fun Q => cm h Q rfl
      rw [C_159]
      simp (disch := omega) only [X_159_0, X_159_1, X_159_4_t, X_159_4_f, X_159_4, X_159_7, X_159_9, X_159_10, X_159_11, X_159_14_t, X_159_14_f, X_159_14, X_159_17, X_159_18, X_159_19, X_159_20, X_159_23, X_159_24, X_159_27_t, X_159_27_f, X_159_27, X_159_30, X_159_32, X_159_33, X_159_34, X_159_37, X_159_39, X_159_40, X_159_42_t, X_159_42_f, X_159_42, X_159_45, X_159_47, X_159_48, X_159_49, X_159_50, X_159_53, X_159_54, X_159_57, X_159_58, X_159_61, r1_63_0, S3_isMove_t, cm2, if_pos hb, pushR_some]
  by_cases h4 : h 64 28 < 40
  case neg =>
    refine OpI_same (r := -2) (by omega) H (fun Q => ?_) (fun Q => ?_)
    · rw [C_52]
      simp (disch := omega) only [X_52_0, X_52_1, X_52_4, X_52_7_t, X_52_7_f, X_52_7, X_52_10, X_52_12, X_52_13, X_52_14, X_52_17_t, X_52_17_f, X_52_17, X_52_20, X_52_21, X_52_22, X_52_23, X_52_26, X_52_27, X_52_30_t, X_52_30_f, X_52_30, X_52_33, X_52_35, X_52_36, X_52_37, X_52_40, X_52_43, X_52_45_t, X_52_45_f, X_52_45, X_52_48, X_52_50, X_52_51, X_52_52, X_52_55, X_52_56, X_52_59, X_52_60, X_52_63, X_52_64, X_52_67, r1_0_2, S_isMove_t, cb, if_neg hb, pushR_some]
    · have cm2 := fun Q => cm h Q rfl
      rw [C_159]
      simp (disch := omega) only [X_159_0, X_159_1, X_159_4_t, X_159_4_f, X_159_4, X_159_7, X_159_9, X_159_10, X_159_11, X_159_14_t, X_159_14_f, X_159_14, X_159_17, X_159_18, X_159_19, X_159_20, X_159_23, X_159_24, X_159_27_t, X_159_27_f, X_159_27, X_159_30, X_159_32, X_159_33, X_159_34, X_159_37, X_159_39, X_159_40, X_159_42_t, X_159_42_f, X_159_42, X_159_45, X_159_47, X_159_48, X_159_49, X_159_50, X_159_53, X_159_54, X_159_57, X_159_58, X_159_61, r1_63_0, S3_isMove_t, cm2, if_neg hb, pushR_some, Int.reduceToNat]
  have hx : xOk x := by unfold xOk; omega
  have ex : cd x = x := by unfold cd; rw [if_neg (by omega), if_pos (by omega)]
  obtain ⟨h2, c2, w64, w63, w1000, T2, w38, wo, w9, w37, I2, F2⟩ := deed2 (d := 29) (by omega) H L1 L2 L3 h4 hx
  rw [ex] at T2 I2 F2
  have hf2 : tyOk (dF (h 64) x) 41 := dF_ty (by rw [← ex]; exact cd_ok hx) hf
  have cS : ∀ Q, call 29 19 [.inr (.inr (some 3)), .inl 0] G1 h2 Q = Q (some (.inl (shF (dF (h 64) x) 0))) G1 h2 := fun Q => S_showIn (c := 0) (by omega) t3 (by omega) T2 hf2 (by omega)
  have bs := shF_rng hf2 (by omega) (show 0 < 14 by omega)
  have esh : shF (ddF (h 64) x) 0 = shF (dF (h 64) x) 0 := by
    have l0 := lie_n hf2 (show 0 < 14 by omega)
    have f1 : ∀ s, (s < 28 ∨ 69 ≤ s) → ddF (h 64) x s = dF (h 64) x s := fun s hs => by unfold ddF; rw [putR_n (by omega), putR_n (by omega)]
    unfold shF
    rw [f1 (69 + 0) (by omega), f1 _ (by omega), f1 (14 + _) (by omega), f1 (83 + _) (by omega), f1 97 (by omega)]
  have w63' : h2 63 1 = 1 := by rw [w63, L1]
  have cD : ∀ Q, call 29 150 [.inr (.inr (some 63)), .inl x] G1 h2 Q = Q none G1 (setR h2 64 (ddF (h 64) x)) := fun Q => by rw [S3_does (by omega) (by rw [← ex]; exact cd_ok hx) (by rw [w64]; omega) (by rw [w64]; exact hf.1), w64]
  have cT : ∀ Q, call 29 143 [.inr (.inr (some 64)), .inl 0] G1 (setR h2 64 (ddF (h 64) x)) Q = Q (some (.inl (shF (dF (h 64) x) 0))) G1 (setR h2 64 (ddF (h 64) x)) := fun Q => by
    have q := S3_showsIn (d := 29) (a := 64) (c := 0) (N := 40) (h := setR h2 64 (ddF (h 64) x)) (Q := Q) (by omega) (Or.inl rfl) (by omega) (by rw [setR_s]; exact FUL_ty F2) (by omega)
    rw [setR_s, esh] at q
    exact q
  refine ⟨shF (dF (h 64) x) 0, h2, setR h2 64 (ddF (h 64) x), by omega, fun Q => ?_, fun Q => ?_, INV_same I2⟩
  · rw [C_52]
    simp (disch := omega) only [X_52_0, X_52_1, X_52_4, X_52_7_t, X_52_7_f, X_52_7, X_52_10, X_52_12, X_52_13, X_52_14, X_52_17_t, X_52_17_f, X_52_17, X_52_20, X_52_21, X_52_22, X_52_23, X_52_26, X_52_27, X_52_30_t, X_52_30_f, X_52_30, X_52_33, X_52_35, X_52_36, X_52_37, X_52_40, X_52_43, X_52_45_t, X_52_45_f, X_52_45, X_52_48, X_52_50, X_52_51, X_52_52, X_52_55, X_52_56, X_52_59, X_52_60, X_52_63, X_52_64, X_52_67, r1_0_2, S_isMove_t, cb, if_neg hb, pushR_some, pushR_none, c2, cS]
  · have cm2 := fun Q => cm h2 Q w64
    rw [C_159]
    simp (disch := omega) only [X_159_0, X_159_1, X_159_4_t, X_159_4_f, X_159_4, X_159_7, X_159_9, X_159_10, X_159_11, X_159_14_t, X_159_14_f, X_159_14, X_159_17, X_159_18, X_159_19, X_159_20, X_159_23, X_159_24, X_159_27_t, X_159_27_f, X_159_27, X_159_30, X_159_32, X_159_33, X_159_34, X_159_37, X_159_39, X_159_40, X_159_42_t, X_159_42_f, X_159_42, X_159_45, X_159_47, X_159_48, X_159_49, X_159_50, X_159_53, X_159_54, X_159_57, X_159_58, X_159_61, r1_63_0, S3_isMove_t, cm2, if_neg hb, pushR_some, pushR_none, Int.reduceToNat, w64, cD, cT]
