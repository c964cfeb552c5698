/-! rows of the instructions, printed by program (wip/whole/gen/genx.py) -/
set_option maxRecDepth 100000 in
theorem X_211_0 {d : Nat} {l0 l1 l2 l3 : Option AV} {st : List AV} {G : AG} {h : AH} {Q : Option AV → AG → AH → Prop} (hk : gN G < 900) : wp d 211 0 [l0, l1, l2, l3] st G h Q = wp d 211 3 [l0, l1, l2, l3] (.inr (.inr (some (gN G))) :: st) (mk G (6, 13) (List.replicate 13 none)) (clr h (gN G)) Q := x_new (ci := 2) rfl (by decide) hk
set_option maxRecDepth 100000 in
theorem X_211_3 {d : Nat} {l0 l1 l2 l3 : Option AV} {st : List AV} {x : Nat} {G : AG} {h : AH} {Q : Option AV → AG → AH → Prop} : wp d 211 3 [l0, l1, l2, l3] (.inr (.inr (some x)) :: st) G h Q = wp d 211 4 [l0, l1, l2, l3] (.inr (.inr (some x)) :: .inr (.inr (some x)) :: st) G h Q := wp_nx rfl
set_option maxRecDepth 100000 in
theorem X_211_4 {d : Nat} {l0 l1 l2 l3 : Option AV} {o : Nat} {s0 : AV} {G : AG} {h : AH} {Q : Option AV → AG → AH → Prop} (hk : (shp G o).1 = 6 ∧ (shp G o).2 = 13) : wp d 211 4 [l0, l1, l2, l3] (.inr (.inr (some o)) :: [s0]) G h Q = call d 38 [.inr (.inr (some o))] G h (fun r G2 h2 => wp d 211 7 [l0, l1, l2, l3] (pushR r [s0]) G2 h2 Q) := x_inv (virt := 2) (as := [.inr (.inr (some o))]) (rest := [s0]) rfl rfl rfl (Nat.le_of_ble_eq_true rfl) (rcv_ok hk)
set_option maxRecDepth 100000 in
theorem X_211_7 {d : Nat} {l0 l1 l2 l3 : Option AV} {st : List AV} {x : Nat} {G : AG} {h : AH} {Q : Option AV → AG → AH → Prop} : wp d 211 7 [l0, l1, l2, l3] (.inr (.inr (some x)) :: st) G h Q = wp d 211 8 [fixp l0, some (.inr (.inr (some x))), l2, l3] st G h Q := wp_nx rfl
set_option maxRecDepth 100000 in
theorem X_211_8 {d : Nat} {l0 l1 l2 l3 : Option AV} {st : List AV} {G : AG} {h : AH} {Q : Option AV → AG → AH → Prop} (hk : gN G < 900) : wp d 211 8 [l0, l1, l2, l3] st G h Q = wp d 211 11 [l0, l1, l2, l3] (.inr (.inr (some (gN G))) :: st) (mk G (7, 20) (List.replicate 20 none)) (clr h (gN G)) Q := x_new (ci := 3) rfl (by decide) hk
set_option maxRecDepth 100000 in
theorem X_211_11 {d : Nat} {l0 l1 l2 l3 : Option AV} {st : List AV} {x : Nat} {G : AG} {h : AH} {Q : Option AV → AG → AH → Prop} : wp d 211 11 [l0, l1, l2, l3] (.inr (.inr (some x)) :: st) G h Q = wp d 211 12 [l0, l1, l2, l3] (.inr (.inr (some x)) :: .inr (.inr (some x)) :: st) G h Q := wp_nx rfl
set_option maxRecDepth 100000 in
theorem X_211_12 {d : Nat} {l0 l1 l2 l3 : Option AV} {o : Nat} {s0 : AV} {G : AG} {h : AH} {Q : Option AV → AG → AH → Prop} (hk : (shp G o).1 = 7 ∧ (shp G o).2 = 20) : wp d 211 12 [l0, l1, l2, l3] (.inr (.inr (some o)) :: [s0]) G h Q = call d 118 [.inr (.inr (some o))] G h (fun r G2 h2 => wp d 211 15 [l0, l1, l2, l3] (pushR r [s0]) G2 h2 Q) := x_inv (virt := 3) (as := [.inr (.inr (some o))]) (rest := [s0]) rfl rfl rfl (Nat.le_of_ble_eq_true rfl) (rcv_ok hk)
set_option maxRecDepth 100000 in
theorem X_211_15 {d : Nat} {l0 l1 l2 l3 : Option AV} {st : List AV} {x : Nat} {G : AG} {h : AH} {Q : Option AV → AG → AH → Prop} : wp d 211 15 [l0, l1, l2, l3] (.inr (.inr (some x)) :: st) G h Q = wp d 211 16 [l0, fixp l1, some (.inr (.inr (some x))), l3] st G h Q := wp_nx rfl
set_option maxRecDepth 100000 in
theorem X_211_16 {d : Nat} {l0 l1 l2 l3 : Option AV} {st : List AV} {G : AG} {h : AH} {Q : Option AV → AG → AH → Prop} : wp d 211 16 [l0, l1, l2, l3] st G h Q = wp d 211 17 [l0, l1, l2, l3] (.inl 0 :: st) G h Q := wp_nx rfl
set_option maxRecDepth 100000 in
theorem X_211_17 {d : Nat} {l0 l1 l2 l3 : Option AV} {st : List AV} {x : Int} {G : AG} {h : AH} {Q : Option AV → AG → AH → Prop} : wp d 211 17 [l0, l1, l2, l3] (.inl x :: st) G h Q = wp d 211 18 [l0, l1, fixp l2, some (.inl x)] st G h Q := wp_nx rfl
set_option maxRecDepth 100000 in
theorem X_211_18 {d : Nat} {l0 l1 l2 : Option AV} {st : List AV} {x : Int} {G : AG} {h : AH} {Q : Option AV → AG → AH → Prop} : wp d 211 18 [l0, l1, l2, some (.inl x)] st G h Q = wp d 211 19 [l0, l1, l2, some (.inl x)] (.inl x :: st) G h Q := wp_nx rfl
set_option maxRecDepth 100000 in
theorem X_211_19 {d : Nat} {l1 l2 l3 : Option AV} {st : List AV} {x : Nat} {G : AG} {h : AH} {Q : Option AV → AG → AH → Prop} : wp d 211 19 [some (.inr (.inr (some x))), l1, l2, l3] st G h Q = wp d 211 20 [some (.inr (.inr (some x))), l1, l2, l3] (.inr (.inr (some x)) :: st) G h Q := wp_nx rfl
set_option maxRecDepth 100000 in
theorem X_211_20 {d : Nat} {l0 l1 l2 l3 : Option AV} {st : List AV} {G : AG} {h : AH} {Q : Option AV → AG → AH → Prop} (hk : 0 ≤ h 1002 0 ∧ h 1002 0 ≤ 100000) : wp d 211 20 [l0, l1, l2, l3] (.inr (.inr (some 1001)) :: st) G h Q = wp d 211 21 [l0, l1, l2, l3] (.inl (h 1002 0) :: st) G h Q := x_slen rfl hk
set_option maxRecDepth 100000 in
theorem X_211_21 {d : Nat} {l0 l1 l2 l3 : Option AV} {st : List AV} {G : AG} {h : AH} {Q : Option AV → AG → AH → Prop} : wp d 211 21 [l0, l1, l2, l3] st G h Q = wp d 211 23 [l0, l1, l2, l3] (.inl 6 :: st) G h Q := wp_nx rfl
set_option maxRecDepth 100000 in
theorem X_211_23 {d : Nat} {l0 l1 l2 l3 : Option AV} {st : List AV} {x y : Int} {G : AG} {h : AH} {Q : Option AV → AG → AH → Prop} : wp d 211 23 [l0, l1, l2, l3] (.inl y :: .inl x :: st) G h Q = wp d 211 24 [l0, l1, l2, l3] (.inl (x - y) :: st) G h Q := wp_nx rfl
set_option maxRecDepth 100000 in
theorem X_211_24 {d : Nat} {l0 l1 l2 l3 : Option AV} {st : List AV} {x y : Int} {G : AG} {h : AH} {Q : Option AV → AG → AH → Prop} (hx : (((-2147483648 ≤ x ∧ x < 2147483648) ∧ (-2147483648 ≤ y ∧ y < 2147483648)) ∨ x = y)) : wp d 211 24 [l0, l1, l2, l3] (.inl y :: .inl x :: st) G h Q = if y < x then wp d 211 1343 [l0, l1, l2, l3] st G h Q else wp d 211 27 [l0, l1, l2, l3] st G h Q := x_icc (y < x) (tst_gt x y) rfl rfl hx
set_option maxRecDepth 100000 in
theorem X_211_24_t {d : Nat} {l0 l1 l2 l3 : Option AV} {st : List AV} {x y : Int} {G : AG} {h : AH} {Q : Option AV → AG → AH → Prop} (hx : (((-2147483648 ≤ x ∧ x < 2147483648) ∧ (-2147483648 ≤ y ∧ y < 2147483648)) ∨ x = y) ∧ y < x) : wp d 211 24 [l0, l1, l2, l3] (.inl y :: .inl x :: st) G h Q = wp d 211 1343 [l0, l1, l2, l3] st G h Q := x_ict (y < x) (tst_gt x y) rfl rfl hx
set_option maxRecDepth 100000 in
theorem X_211_24_f {d : Nat} {l0 l1 l2 l3 : Option AV} {st : List AV} {x y : Int} {G : AG} {h : AH} {Q : Option AV → AG → AH → Prop} (hx : (((-2147483648 ≤ x ∧ x < 2147483648) ∧ (-2147483648 ≤ y ∧ y < 2147483648)) ∨ x = y) ∧ ¬ (y < x)) : wp d 211 24 [l0, l1, l2, l3] (.inl y :: .inl x :: st) G h Q = wp d 211 27 [l0, l1, l2, l3] st G h Q := x_icf (y < x) (tst_gt x y) (tgt := 1343) rfl rfl hx
set_option maxRecDepth 100000 in
theorem X_211_27 {d : Nat} {l1 l2 l3 : Option AV} {st : List AV} {x : Nat} {G : AG} {h : AH} {Q : Option AV → AG → AH → Prop} : wp d 211 27 [some (.inr (.inr (some x))), l1, l2, l3] st G h Q = wp d 211 28 [some (.inr (.inr (some x))), l1, l2, l3] (.inr (.inr (some x)) :: st) G h Q := wp_nx rfl
set_option maxRecDepth 100000 in
theorem X_211_28 {d : Nat} {l0 l1 l2 : Option AV} {st : List AV} {x : Int} {G : AG} {h : AH} {Q : Option AV → AG → AH → Prop} : wp d 211 28 [l0, l1, l2, some (.inl x)] st G h Q = wp d 211 29 [l0, l1, l2, some (.inl x)] (.inl x :: st) G h Q := wp_nx rfl
set_option maxRecDepth 100000 in
theorem X_211_29 {d : Nat} {l0 l1 l2 l3 : Option AV} {st : List AV} {i : Int} {G : AG} {h : AH} {Q : Option AV → AG → AH → Prop} (hk : 0 ≤ i ∧ i < h 1002 0 ∧ h 1002 0 ≤ 100000) : wp d 211 29 [l0, l1, l2, l3] (.inl i :: .inr (.inr (some 1001)) :: st) G h Q = wp d 211 30 [l0, l1, l2, l3] (.inl (h 1001 i.toNat) :: st) G h Q := x_scr rfl hk
set_option maxRecDepth 100000 in
theorem X_211_30 {d : Nat} {l0 l1 l2 l3 : Option AV} {st : List AV} {G : AG} {h : AH} {Q : Option AV → AG → AH → Prop} : wp d 211 30 [l0, l1, l2, l3] st G h Q = wp d 211 32 [l0, l1, l2, l3] (.inl 63 :: st) G h Q := wp_nx rfl
set_option maxRecDepth 100000 in
theorem X_211_32 {d : Nat} {l0 l1 l2 l3 : Option AV} {st : List AV} {x y : Int} {G : AG} {h : AH} {Q : Option AV → AG → AH → Prop} : wp d 211 32 [l0, l1, l2, l3] (.inl y :: .inl x :: st) G h Q = wp d 211 33 [l0, l1, l2, l3] (.inl (bAnd x y) :: st) G h Q := wp_nx rfl
set_option maxRecDepth 100000 in
theorem X_211_200 {d : Nat} {l0 l2 l3 : Option AV} {st : List AV} {x : Nat} {G : AG} {h : AH} {Q : Option AV → AG → AH → Prop} : wp d 211 200 [l0, some (.inr (.inr (some x))), l2, l3] st G h Q = wp d 211 201 [l0, some (.inr (.inr (some x))), l2, l3] (.inr (.inr (some x)) :: st) G h Q := wp_nx rfl
set_option maxRecDepth 100000 in
theorem X_211_201 {d : Nat} {l1 l2 l3 : Option AV} {st : List AV} {x : Nat} {G : AG} {h : AH} {Q : Option AV → AG → AH → Prop} : wp d 211 201 [some (.inr (.inr (some x))), l1, l2, l3] st G h Q = wp d 211 202 [some (.inr (.inr (some x))), l1, l2, l3] (.inr (.inr (some x)) :: st) G h Q := wp_nx rfl
set_option maxRecDepth 100000 in
theorem X_211_202 {d : Nat} {l0 l1 l2 : Option AV} {st : List AV} {x : Int} {G : AG} {h : AH} {Q : Option AV → AG → AH → Prop} : wp d 211 202 [l0, l1, l2, some (.inl x)] st G h Q = wp d 211 203 [l0, l1, l2, some (.inl x)] (.inl x :: st) G h Q := wp_nx rfl
set_option maxRecDepth 100000 in
theorem X_211_203 {d : Nat} {l0 l1 l2 l3 : Option AV} {st : List AV} {G : AG} {h : AH} {Q : Option AV → AG → AH → Prop} : wp d 211 203 [l0, l1, l2, l3] st G h Q = wp d 211 204 [l0, l1, l2, l3] (.inl 1 :: st) G h Q := wp_nx rfl
set_option maxRecDepth 100000 in
theorem X_211_204 {d : Nat} {l0 l1 l2 l3 : Option AV} {st : List AV} {x y : Int} {G : AG} {h : AH} {Q : Option AV → AG → AH → Prop} : wp d 211 204 [l0, l1, l2, l3] (.inl y :: .inl x :: st) G h Q = wp d 211 205 [l0, l1, l2, l3] (.inl (x + y) :: st) G h Q := wp_nx rfl
set_option maxRecDepth 100000 in
theorem X_211_205 {d : Nat} {l0 l1 l2 l3 : Option AV} {st : List AV} {i : Int} {G : AG} {h : AH} {Q : Option AV → AG → AH → Prop} (hk : 0 ≤ i ∧ i < h 1002 0 ∧ h 1002 0 ≤ 100000) : wp d 211 205 [l0, l1, l2, l3] (.inl i :: .inr (.inr (some 1001)) :: st) G h Q = wp d 211 206 [l0, l1, l2, l3] (.inl (h 1001 i.toNat) :: st) G h Q := x_scr rfl hk
set_option maxRecDepth 100000 in
theorem X_211_206 {d : Nat} {l1 l2 l3 : Option AV} {st : List AV} {x : Nat} {G : AG} {h : AH} {Q : Option AV → AG → AH → Prop} : wp d 211 206 [some (.inr (.inr (some x))), l1, l2, l3] st G h Q = wp d 211 207 [some (.inr (.inr (some x))), l1, l2, l3] (.inr (.inr (some x)) :: st) G h Q := wp_nx rfl
set_option maxRecDepth 100000 in
theorem X_211_207 {d : Nat} {l0 l1 l2 : Option AV} {st : List AV} {x : Int} {G : AG} {h : AH} {Q : Option AV → AG → AH → Prop} : wp d 211 207 [l0, l1, l2, some (.inl x)] st G h Q = wp d 211 208 [l0, l1, l2, some (.inl x)] (.inl x :: st) G h Q := wp_nx rfl
set_option maxRecDepth 100000 in
theorem X_211_208 {d : Nat} {l0 l1 l2 l3 : Option AV} {st : List AV} {G : AG} {h : AH} {Q : Option AV → AG → AH → Prop} : wp d 211 208 [l0, l1, l2, l3] st G h Q = wp d 211 209 [l0, l1, l2, l3] (.inl 2 :: st) G h Q := wp_nx rfl
set_option maxRecDepth 100000 in
theorem X_211_209 {d : Nat} {l0 l1 l2 l3 : Option AV} {st : List AV} {x y : Int} {G : AG} {h : AH} {Q : Option AV → AG → AH → Prop} : wp d 211 209 [l0, l1, l2, l3] (.inl y :: .inl x :: st) G h Q = wp d 211 210 [l0, l1, l2, l3] (.inl (x + y) :: st) G h Q := wp_nx rfl
set_option maxRecDepth 100000 in
theorem X_211_210 {d : Nat} {l0 l1 l2 l3 : Option AV} {st : List AV} {i : Int} {G : AG} {h : AH} {Q : Option AV → AG → AH → Prop} (hk : 0 ≤ i ∧ i < h 1002 0 ∧ h 1002 0 ≤ 100000) : wp d 211 210 [l0, l1, l2, l3] (.inl i :: .inr (.inr (some 1001)) :: st) G h Q = wp d 211 211 [l0, l1, l2, l3] (.inl (h 1001 i.toNat) :: st) G h Q := x_scr rfl hk
set_option maxRecDepth 100000 in
theorem X_211_211 {d : Nat} {l0 l1 l2 l3 : Option AV} {o : Nat} {a1 a2 : AV} {G : AG} {h : AH} {Q : Option AV → AG → AH → Prop} (hk : (shp G o).1 = 6 ∧ (shp G o).2 = 13) : wp d 211 211 [l0, l1, l2, l3] (a2 :: a1 :: .inr (.inr (some o)) :: []) G h Q = call d 39 [.inr (.inr (some o)), a1, a2] G h (fun r G2 h2 => wp d 211 214 [l0, l1, l2, l3] (pushR r []) G2 h2 Q) := x_inv (virt := 2) (as := [.inr (.inr (some o)), a1, a2]) (rest := []) rfl rfl rfl (Nat.le_of_ble_eq_true rfl) (rcv_ok hk)
set_option maxRecDepth 100000 in
theorem X_211_214 {d : Nat} {l0 l1 l3 : Option AV} {st : List AV} {x : Nat} {G : AG} {h : AH} {Q : Option AV → AG → AH → Prop} : wp d 211 214 [l0, l1, some (.inr (.inr (some x))), l3] st G h Q = wp d 211 215 [l0, l1, some (.inr (.inr (some x))), l3] (.inr (.inr (some x)) :: st) G h Q := wp_nx rfl
set_option maxRecDepth 100000 in
theorem X_211_215 {d : Nat} {l1 l2 l3 : Option AV} {st : List AV} {x : Nat} {G : AG} {h : AH} {Q : Option AV → AG → AH → Prop} : wp d 211 215 [some (.inr (.inr (some x))), l1, l2, l3] st G h Q = wp d 211 216 [some (.inr (.inr (some x))), l1, l2, l3] (.inr (.inr (some x)) :: st) G h Q := wp_nx rfl
set_option maxRecDepth 100000 in
theorem X_211_216 {d : Nat} {l0 l1 l2 : Option AV} {st : List AV} {x : Int} {G : AG} {h : AH} {Q : Option AV → AG → AH → Prop} : wp d 211 216 [l0, l1, l2, some (.inl x)] st G h Q = wp d 211 217 [l0, l1, l2, some (.inl x)] (.inl x :: st) G h Q := wp_nx rfl
set_option maxRecDepth 100000 in
theorem X_211_217 {d : Nat} {l0 l1 l2 l3 : Option AV} {st : List AV} {G : AG} {h : AH} {Q : Option AV → AG → AH → Prop} : wp d 211 217 [l0, l1, l2, l3] st G h Q = wp d 211 218 [l0, l1, l2, l3] (.inl 1 :: st) G h Q := wp_nx rfl
set_option maxRecDepth 100000 in
theorem X_211_218 {d : Nat} {l0 l1 l2 l3 : Option AV} {st : List AV} {x y : Int} {G : AG} {h : AH} {Q : Option AV → AG → AH → Prop} : wp d 211 218 [l0, l1, l2, l3] (.inl y :: .inl x :: st) G h Q = wp d 211 219 [l0, l1, l2, l3] (.inl (x + y) :: st) G h Q := wp_nx rfl
set_option maxRecDepth 100000 in
theorem X_211_219 {d : Nat} {l0 l1 l2 l3 : Option AV} {st : List AV} {i : Int} {G : AG} {h : AH} {Q : Option AV → AG → AH → Prop} (hk : 0 ≤ i ∧ i < h 1002 0 ∧ h 1002 0 ≤ 100000) : wp d 211 219 [l0, l1, l2, l3] (.inl i :: .inr (.inr (some 1001)) :: st) G h Q = wp d 211 220 [l0, l1, l2, l3] (.inl (h 1001 i.toNat) :: st) G h Q := x_scr rfl hk
set_option maxRecDepth 100000 in
theorem X_211_220 {d : Nat} {l1 l2 l3 : Option AV} {st : List AV} {x : Nat} {G : AG} {h : AH} {Q : Option AV → AG → AH → Prop} : wp d 211 220 [some (.inr (.inr (some x))), l1, l2, l3] st G h Q = wp d 211 221 [some (.inr (.inr (some x))), l1, l2, l3] (.inr (.inr (some x)) :: st) G h Q := wp_nx rfl
set_option maxRecDepth 100000 in
theorem X_211_221 {d : Nat} {l0 l1 l2 : Option AV} {st : List AV} {x : Int} {G : AG} {h : AH} {Q : Option AV → AG → AH → Prop} : wp d 211 221 [l0, l1, l2, some (.inl x)] st G h Q = wp d 211 222 [l0, l1, l2, some (.inl x)] (.inl x :: st) G h Q := wp_nx rfl
set_option maxRecDepth 100000 in
theorem X_211_222 {d : Nat} {l0 l1 l2 l3 : Option AV} {st : List AV} {G : AG} {h : AH} {Q : Option AV → AG → AH → Prop} : wp d 211 222 [l0, l1, l2, l3] st G h Q = wp d 211 223 [l0, l1, l2, l3] (.inl 2 :: st) G h Q := wp_nx rfl
set_option maxRecDepth 100000 in
theorem X_211_223 {d : Nat} {l0 l1 l2 l3 : Option AV} {st : List AV} {x y : Int} {G : AG} {h : AH} {Q : Option AV → AG → AH → Prop} : wp d 211 223 [l0, l1, l2, l3] (.inl y :: .inl x :: st) G h Q = wp d 211 224 [l0, l1, l2, l3] (.inl (x + y) :: st) G h Q := wp_nx rfl
set_option maxRecDepth 100000 in
theorem X_211_224 {d : Nat} {l0 l1 l2 l3 : Option AV} {st : List AV} {i : Int} {G : AG} {h : AH} {Q : Option AV → AG → AH → Prop} (hk : 0 ≤ i ∧ i < h 1002 0 ∧ h 1002 0 ≤ 100000) : wp d 211 224 [l0, l1, l2, l3] (.inl i :: .inr (.inr (some 1001)) :: st) G h Q = wp d 211 225 [l0, l1, l2, l3] (.inl (h 1001 i.toNat) :: st) G h Q := x_scr rfl hk
set_option maxRecDepth 100000 in
theorem X_211_225 {d : Nat} {l0 l1 l2 l3 : Option AV} {o : Nat} {a1 a2 : AV} {s0 : AV} {G : AG} {h : AH} {Q : Option AV → AG → AH → Prop} (hk : (shp G o).1 = 7 ∧ (shp G o).2 = 20) : wp d 211 225 [l0, l1, l2, l3] (a2 :: a1 :: .inr (.inr (some o)) :: [s0]) G h Q = call d 124 [.inr (.inr (some o)), a1, a2] G h (fun r G2 h2 => wp d 211 228 [l0, l1, l2, l3] (pushR r [s0]) G2 h2 Q) := x_inv (virt := 3) (as := [.inr (.inr (some o)), a1, a2]) (rest := [s0]) rfl rfl rfl (Nat.le_of_ble_eq_true rfl) (rcv_ok hk)
set_option maxRecDepth 100000 in
theorem X_211_228 {d : Nat} {l0 l1 l2 l3 : Option AV} {st : List AV} {x y : Int} {G : AG} {h : AH} {Q : Option AV → AG → AH → Prop} (hx : (((-2147483648 ≤ x ∧ x < 2147483648) ∧ (-2147483648 ≤ y ∧ y < 2147483648)) ∨ x = y)) : wp d 211 228 [l0, l1, l2, l3] (.inl y :: .inl x :: st) G h Q = if x = y then wp d 211 1337 [l0, l1, l2, l3] st G h Q else wp d 211 231 [l0, l1, l2, l3] st G h Q := x_icc (x = y) (tst_eq x y) rfl rfl hx
set_option maxRecDepth 100000 in
theorem X_211_228_t {d : Nat} {l0 l1 l2 l3 : Option AV} {st : List AV} {x y : Int} {G : AG} {h : AH} {Q : Option AV → AG → AH → Prop} (hx : (((-2147483648 ≤ x ∧ x < 2147483648) ∧ (-2147483648 ≤ y ∧ y < 2147483648)) ∨ x = y) ∧ x = y) : wp d 211 228 [l0, l1, l2, l3] (.inl y :: .inl x :: st) G h Q = wp d 211 1337 [l0, l1, l2, l3] st G h Q := x_ict (x = y) (tst_eq x y) rfl rfl hx
set_option maxRecDepth 100000 in
theorem X_211_228_f {d : Nat} {l0 l1 l2 l3 : Option AV} {st : List AV} {x y : Int} {G : AG} {h : AH} {Q : Option AV → AG → AH → Prop} (hx : (((-2147483648 ≤ x ∧ x < 2147483648) ∧ (-2147483648 ≤ y ∧ y < 2147483648)) ∨ x = y) ∧ ¬ (x = y)) : wp d 211 228 [l0, l1, l2, l3] (.inl y :: .inl x :: st) G h Q = wp d 211 231 [l0, l1, l2, l3] st G h Q := x_icf (x = y) (tst_eq x y) (tgt := 1337) rfl rfl hx
set_option maxRecDepth 100000 in
theorem X_211_231 {d : Nat} {l0 l1 l2 l3 : Option AV} {st : List AV} {G : AG} {h : AH} {Q : Option AV → AG → AH → Prop} : wp d 211 231 [l0, l1, l2, l3] st G h Q = wp d 211 232 [l0, l1, l2, l3] (.inl 0 :: st) G h Q := wp_nx rfl
set_option maxRecDepth 100000 in
theorem X_211_232 {d : Nat} {l0 l1 l2 l3 : Option AV} {x : Int} {G : AG} {h : AH} {Q : Option AV → AG → AH → Prop} (hx : x = 0 ∨ x = 1) : wp d 211 232 [l0, l1, l2, l3] [.inl x] G h Q = Q (some (.inl x)) G h := x_retZ rfl hx
set_option maxRecDepth 100000 in
theorem X_211_233 {d : Nat} {l0 l2 l3 : Option AV} {st : List AV} {x : Nat} {G : AG} {h : AH} {Q : Option AV → AG → AH → Prop} : wp d 211 233 [l0, some (.inr (.inr (some x))), l2, l3] st G h Q = wp d 211 234 [l0, some (.inr (.inr (some x))), l2, l3] (.inr (.inr (some x)) :: st) G h Q := wp_nx rfl
set_option maxRecDepth 100000 in
theorem X_211_234 {d : Nat} {l1 l2 l3 : Option AV} {st : List AV} {x : Nat} {G : AG} {h : AH} {Q : Option AV → AG → AH → Prop} : wp d 211 234 [some (.inr (.inr (some x))), l1, l2, l3] st G h Q = wp d 211 235 [some (.inr (.inr (some x))), l1, l2, l3] (.inr (.inr (some x)) :: st) G h Q := wp_nx rfl
set_option maxRecDepth 100000 in
theorem X_211_235 {d : Nat} {l0 l1 l2 : Option AV} {st : List AV} {x : Int} {G : AG} {h : AH} {Q : Option AV → AG → AH → Prop} : wp d 211 235 [l0, l1, l2, some (.inl x)] st G h Q = wp d 211 236 [l0, l1, l2, some (.inl x)] (.inl x :: st) G h Q := wp_nx rfl
set_option maxRecDepth 100000 in
theorem X_211_236 {d : Nat} {l0 l1 l2 l3 : Option AV} {st : List AV} {G : AG} {h : AH} {Q : Option AV → AG → AH → Prop} : wp d 211 236 [l0, l1, l2, l3] st G h Q = wp d 211 237 [l0, l1, l2, l3] (.inl 1 :: st) G h Q := wp_nx rfl
set_option maxRecDepth 100000 in
theorem X_211_237 {d : Nat} {l0 l1 l2 l3 : Option AV} {st : List AV} {x y : Int} {G : AG} {h : AH} {Q : Option AV → AG → AH → Prop} : wp d 211 237 [l0, l1, l2, l3] (.inl y :: .inl x :: st) G h Q = wp d 211 238 [l0, l1, l2, l3] (.inl (x + y) :: st) G h Q := wp_nx rfl
set_option maxRecDepth 100000 in
theorem X_211_238 {d : Nat} {l0 l1 l2 l3 : Option AV} {st : List AV} {i : Int} {G : AG} {h : AH} {Q : Option AV → AG → AH → Prop} (hk : 0 ≤ i ∧ i < h 1002 0 ∧ h 1002 0 ≤ 100000) : wp d 211 238 [l0, l1, l2, l3] (.inl i :: .inr (.inr (some 1001)) :: st) G h Q = wp d 211 239 [l0, l1, l2, l3] (.inl (h 1001 i.toNat) :: st) G h Q := x_scr rfl hk
set_option maxRecDepth 100000 in
theorem X_211_239 {d : Nat} {l1 l2 l3 : Option AV} {st : List AV} {x : Nat} {G : AG} {h : AH} {Q : Option AV → AG → AH → Prop} : wp d 211 239 [some (.inr (.inr (some x))), l1, l2, l3] st G h Q = wp d 211 240 [some (.inr (.inr (some x))), l1, l2, l3] (.inr (.inr (some x)) :: st) G h Q := wp_nx rfl
set_option maxRecDepth 100000 in
theorem X_211_240 {d : Nat} {l0 l1 l2 : Option AV} {st : List AV} {x : Int} {G : AG} {h : AH} {Q : Option AV → AG → AH → Prop} : wp d 211 240 [l0, l1, l2, some (.inl x)] st G h Q = wp d 211 241 [l0, l1, l2, some (.inl x)] (.inl x :: st) G h Q := wp_nx rfl
set_option maxRecDepth 100000 in
theorem X_211_241 {d : Nat} {l0 l1 l2 l3 : Option AV} {st : List AV} {G : AG} {h : AH} {Q : Option AV → AG → AH → Prop} : wp d 211 241 [l0, l1, l2, l3] st G h Q = wp d 211 242 [l0, l1, l2, l3] (.inl 2 :: st) G h Q := wp_nx rfl
set_option maxRecDepth 100000 in
theorem X_211_242 {d : Nat} {l0 l1 l2 l3 : Option AV} {st : List AV} {x y : Int} {G : AG} {h : AH} {Q : Option AV → AG → AH → Prop} : wp d 211 242 [l0, l1, l2, l3] (.inl y :: .inl x :: st) G h Q = wp d 211 243 [l0, l1, l2, l3] (.inl (x + y) :: st) G h Q := wp_nx rfl
set_option maxRecDepth 100000 in
theorem X_211_243 {d : Nat} {l0 l1 l2 l3 : Option AV} {st : List AV} {i : Int} {G : AG} {h : AH} {Q : Option AV → AG → AH → Prop} (hk : 0 ≤ i ∧ i < h 1002 0 ∧ h 1002 0 ≤ 100000) : wp d 211 243 [l0, l1, l2, l3] (.inl i :: .inr (.inr (some 1001)) :: st) G h Q = wp d 211 244 [l0, l1, l2, l3] (.inl (h 1001 i.toNat) :: st) G h Q := x_scr rfl hk
set_option maxRecDepth 100000 in
theorem X_211_244 {d : Nat} {l1 l2 l3 : Option AV} {st : List AV} {x : Nat} {G : AG} {h : AH} {Q : Option AV → AG → AH → Prop} : wp d 211 244 [some (.inr (.inr (some x))), l1, l2, l3] st G h Q = wp d 211 245 [some (.inr (.inr (some x))), l1, l2, l3] (.inr (.inr (some x)) :: st) G h Q := wp_nx rfl
set_option maxRecDepth 100000 in
theorem X_211_245 {d : Nat} {l0 l1 l2 : Option AV} {st : List AV} {x : Int} {G : AG} {h : AH} {Q : Option AV → AG → AH → Prop} : wp d 211 245 [l0, l1, l2, some (.inl x)] st G h Q = wp d 211 246 [l0, l1, l2, some (.inl x)] (.inl x :: st) G h Q := wp_nx rfl
set_option maxRecDepth 100000 in
theorem X_211_246 {d : Nat} {l0 l1 l2 l3 : Option AV} {st : List AV} {G : AG} {h : AH} {Q : Option AV → AG → AH → Prop} : wp d 211 246 [l0, l1, l2, l3] st G h Q = wp d 211 247 [l0, l1, l2, l3] (.inl 3 :: st) G h Q := wp_nx rfl
set_option maxRecDepth 100000 in
theorem X_211_247 {d : Nat} {l0 l1 l2 l3 : Option AV} {st : List AV} {x y : Int} {G : AG} {h : AH} {Q : Option AV → AG → AH → Prop} : wp d 211 247 [l0, l1, l2, l3] (.inl y :: .inl x :: st) G h Q = wp d 211 248 [l0, l1, l2, l3] (.inl (x + y) :: st) G h Q := wp_nx rfl
set_option maxRecDepth 100000 in
theorem X_211_248 {d : Nat} {l0 l1 l2 l3 : Option AV} {st : List AV} {i : Int} {G : AG} {h : AH} {Q : Option AV → AG → AH → Prop} (hk : 0 ≤ i ∧ i < h 1002 0 ∧ h 1002 0 ≤ 100000) : wp d 211 248 [l0, l1, l2, l3] (.inl i :: .inr (.inr (some 1001)) :: st) G h Q = wp d 211 249 [l0, l1, l2, l3] (.inl (h 1001 i.toNat) :: st) G h Q := x_scr rfl hk
set_option maxRecDepth 100000 in
theorem X_211_249 {d : Nat} {l0 l1 l2 l3 : Option AV} {o : Nat} {a1 a2 a3 : AV} {G : AG} {h : AH} {Q : Option AV → AG → AH → Prop} (hk : (shp G o).1 = 6 ∧ (shp G o).2 = 13) : wp d 211 249 [l0, l1, l2, l3] (a3 :: a2 :: a1 :: .inr (.inr (some o)) :: []) G h Q = call d 40 [.inr (.inr (some o)), a1, a2, a3] G h (fun r G2 h2 => wp d 211 252 [l0, l1, l2, l3] (pushR r []) G2 h2 Q) := x_inv (virt := 2) (as := [.inr (.inr (some o)), a1, a2, a3]) (rest := []) rfl rfl rfl (Nat.le_of_ble_eq_true rfl) (rcv_ok hk)
set_option maxRecDepth 100000 in
theorem X_211_252 {d : Nat} {l0 l1 l3 : Option AV} {st : List AV} {x : Nat} {G : AG} {h : AH} {Q : Option AV → AG → AH → Prop} : wp d 211 252 [l0, l1, some (.inr (.inr (some x))), l3] st G h Q = wp d 211 253 [l0, l1, some (.inr (.inr (some x))), l3] (.inr (.inr (some x)) :: st) G h Q := wp_nx rfl
set_option maxRecDepth 100000 in
theorem X_211_253 {d : Nat} {l1 l2 l3 : Option AV} {st : List AV} {x : Nat} {G : AG} {h : AH} {Q : Option AV → AG → AH → Prop} : wp d 211 253 [some (.inr (.inr (some x))), l1, l2, l3] st G h Q = wp d 211 254 [some (.inr (.inr (some x))), l1, l2, l3] (.inr (.inr (some x)) :: st) G h Q := wp_nx rfl
set_option maxRecDepth 100000 in
theorem X_211_254 {d : Nat} {l0 l1 l2 : Option AV} {st : List AV} {x : Int} {G : AG} {h : AH} {Q : Option AV → AG → AH → Prop} : wp d 211 254 [l0, l1, l2, some (.inl x)] st G h Q = wp d 211 255 [l0, l1, l2, some (.inl x)] (.inl x :: st) G h Q := wp_nx rfl
set_option maxRecDepth 100000 in
theorem X_211_255 {d : Nat} {l0 l1 l2 l3 : Option AV} {st : List AV} {G : AG} {h : AH} {Q : Option AV → AG → AH → Prop} : wp d 211 255 [l0, l1, l2, l3] st G h Q = wp d 211 256 [l0, l1, l2, l3] (.inl 1 :: st) G h Q := wp_nx rfl
set_option maxRecDepth 100000 in
theorem X_211_256 {d : Nat} {l0 l1 l2 l3 : Option AV} {st : List AV} {x y : Int} {G : AG} {h : AH} {Q : Option AV → AG → AH → Prop} : wp d 211 256 [l0, l1, l2, l3] (.inl y :: .inl x :: st) G h Q = wp d 211 257 [l0, l1, l2, l3] (.inl (x + y) :: st) G h Q := wp_nx rfl
set_option maxRecDepth 100000 in
theorem X_211_257 {d : Nat} {l0 l1 l2 l3 : Option AV} {st : List AV} {i : Int} {G : AG} {h : AH} {Q : Option AV → AG → AH → Prop} (hk : 0 ≤ i ∧ i < h 1002 0 ∧ h 1002 0 ≤ 100000) : wp d 211 257 [l0, l1, l2, l3] (.inl i :: .inr (.inr (some 1001)) :: st) G h Q = wp d 211 258 [l0, l1, l2, l3] (.inl (h 1001 i.toNat) :: st) G h Q := x_scr rfl hk
set_option maxRecDepth 100000 in
theorem X_211_258 {d : Nat} {l1 l2 l3 : Option AV} {st : List AV} {x : Nat} {G : AG} {h : AH} {Q : Option AV → AG → AH → Prop} : wp d 211 258 [some (.inr (.inr (some x))), l1, l2, l3] st G h Q = wp d 211 259 [some (.inr (.inr (some x))), l1, l2, l3] (.inr (.inr (some x)) :: st) G h Q := wp_nx rfl
set_option maxRecDepth 100000 in
theorem X_211_259 {d : Nat} {l0 l1 l2 : Option AV} {st : List AV} {x : Int} {G : AG} {h : AH} {Q : Option AV → AG → AH → Prop} : wp d 211 259 [l0, l1, l2, some (.inl x)] st G h Q = wp d 211 260 [l0, l1, l2, some (.inl x)] (.inl x :: st) G h Q := wp_nx rfl
set_option maxRecDepth 100000 in
theorem X_211_260 {d : Nat} {l0 l1 l2 l3 : Option AV} {st : List AV} {G : AG} {h : AH} {Q : Option AV → AG → AH → Prop} : wp d 211 260 [l0, l1, l2, l3] st G h Q = wp d 211 261 [l0, l1, l2, l3] (.inl 2 :: st) G h Q := wp_nx rfl
set_option maxRecDepth 100000 in
theorem X_211_261 {d : Nat} {l0 l1 l2 l3 : Option AV} {st : List AV} {x y : Int} {G : AG} {h : AH} {Q : Option AV → AG → AH → Prop} : wp d 211 261 [l0, l1, l2, l3] (.inl y :: .inl x :: st) G h Q = wp d 211 262 [l0, l1, l2, l3] (.inl (x + y) :: st) G h Q := wp_nx rfl
set_option maxRecDepth 100000 in
theorem X_211_262 {d : Nat} {l0 l1 l2 l3 : Option AV} {st : List AV} {i : Int} {G : AG} {h : AH} {Q : Option AV → AG → AH → Prop} (hk : 0 ≤ i ∧ i < h 1002 0 ∧ h 1002 0 ≤ 100000) : wp d 211 262 [l0, l1, l2, l3] (.inl i :: .inr (.inr (some 1001)) :: st) G h Q = wp d 211 263 [l0, l1, l2, l3] (.inl (h 1001 i.toNat) :: st) G h Q := x_scr rfl hk
set_option maxRecDepth 100000 in
theorem X_211_263 {d : Nat} {l1 l2 l3 : Option AV} {st : List AV} {x : Nat} {G : AG} {h : AH} {Q : Option AV → AG → AH → Prop} : wp d 211 263 [some (.inr (.inr (some x))), l1, l2, l3] st G h Q = wp d 211 264 [some (.inr (.inr (some x))), l1, l2, l3] (.inr (.inr (some x)) :: st) G h Q := wp_nx rfl
set_option maxRecDepth 100000 in
theorem X_211_264 {d : Nat} {l0 l1 l2 : Option AV} {st : List AV} {x : Int} {G : AG} {h : AH} {Q : Option AV → AG → AH → Prop} : wp d 211 264 [l0, l1, l2, some (.inl x)] st G h Q = wp d 211 265 [l0, l1, l2, some (.inl x)] (.inl x :: st) G h Q := wp_nx rfl
set_option maxRecDepth 100000 in
theorem X_211_265 {d : Nat} {l0 l1 l2 l3 : Option AV} {st : List AV} {G : AG} {h : AH} {Q : Option AV → AG → AH → Prop} : wp d 211 265 [l0, l1, l2, l3] st G h Q = wp d 211 266 [l0, l1, l2, l3] (.inl 3 :: st) G h Q := wp_nx rfl
set_option maxRecDepth 100000 in
theorem X_211_266 {d : Nat} {l0 l1 l2 l3 : Option AV} {st : List AV} {x y : Int} {G : AG} {h : AH} {Q : Option AV → AG → AH → Prop} : wp d 211 266 [l0, l1, l2, l3] (.inl y :: .inl x :: st) G h Q = wp d 211 267 [l0, l1, l2, l3] (.inl (x + y) :: st) G h Q := wp_nx rfl
set_option maxRecDepth 100000 in
theorem X_211_267 {d : Nat} {l0 l1 l2 l3 : Option AV} {st : List AV} {i : Int} {G : AG} {h : AH} {Q : Option AV → AG → AH → Prop} (hk : 0 ≤ i ∧ i < h 1002 0 ∧ h 1002 0 ≤ 100000) : wp d 211 267 [l0, l1, l2, l3] (.inl i :: .inr (.inr (some 1001)) :: st) G h Q = wp d 211 268 [l0, l1, l2, l3] (.inl (h 1001 i.toNat) :: st) G h Q := x_scr rfl hk
set_option maxRecDepth 100000 in
theorem X_211_268 {d : Nat} {l0 l1 l2 l3 : Option AV} {o : Nat} {a1 a2 a3 : AV} {s0 : AV} {G : AG} {h : AH} {Q : Option AV → AG → AH → Prop} (hk : (shp G o).1 = 7 ∧ (shp G o).2 = 20) : wp d 211 268 [l0, l1, l2, l3] (a3 :: a2 :: a1 :: .inr (.inr (some o)) :: [s0]) G h Q = call d 125 [.inr (.inr (some o)), a1, a2, a3] G h (fun r G2 h2 => wp d 211 271 [l0, l1, l2, l3] (pushR r [s0]) G2 h2 Q) := x_inv (virt := 3) (as := [.inr (.inr (some o)), a1, a2, a3]) (rest := [s0]) rfl rfl rfl (Nat.le_of_ble_eq_true rfl) (rcv_ok hk)
set_option maxRecDepth 100000 in
theorem X_211_271 {d : Nat} {l0 l1 l2 l3 : Option AV} {st : List AV} {x y : Int} {G : AG} {h : AH} {Q : Option AV → AG → AH → Prop} (hx : (((-2147483648 ≤ x ∧ x < 2147483648) ∧ (-2147483648 ≤ y ∧ y < 2147483648)) ∨ x = y)) : wp d 211 271 [l0, l1, l2, l3] (.inl y :: .inl x :: st) G h Q = if x = y then wp d 211 1337 [l0, l1, l2, l3] st G h Q else wp d 211 274 [l0, l1, l2, l3] st G h Q := x_icc (x = y) (tst_eq x y) rfl rfl hx
set_option maxRecDepth 100000 in
theorem X_211_271_t {d : Nat} {l0 l1 l2 l3 : Option AV} {st : List AV} {x y : Int} {G : AG} {h : AH} {Q : Option AV → AG → AH → Prop} (hx : (((-2147483648 ≤ x ∧ x < 2147483648) ∧ (-2147483648 ≤ y ∧ y < 2147483648)) ∨ x = y) ∧ x = y) : wp d 211 271 [l0, l1, l2, l3] (.inl y :: .inl x :: st) G h Q = wp d 211 1337 [l0, l1, l2, l3] st G h Q := x_ict (x = y) (tst_eq x y) rfl rfl hx
set_option maxRecDepth 100000 in
theorem X_211_271_f {d : Nat} {l0 l1 l2 l3 : Option AV} {st : List AV} {x y : Int} {G : AG} {h : AH} {Q : Option AV → AG → AH → Prop} (hx : (((-2147483648 ≤ x ∧ x < 2147483648) ∧ (-2147483648 ≤ y ∧ y < 2147483648)) ∨ x = y) ∧ ¬ (x = y)) : wp d 211 271 [l0, l1, l2, l3] (.inl y :: .inl x :: st) G h Q = wp d 211 274 [l0, l1, l2, l3] st G h Q := x_icf (x = y) (tst_eq x y) (tgt := 1337) rfl rfl hx
set_option maxRecDepth 100000 in
theorem X_211_274 {d : Nat} {l0 l1 l2 l3 : Option AV} {st : List AV} {G : AG} {h : AH} {Q : Option AV → AG → AH → Prop} : wp d 211 274 [l0, l1, l2, l3] st G h Q = wp d 211 275 [l0, l1, l2, l3] (.inl 0 :: st) G h Q := wp_nx rfl
set_option maxRecDepth 100000 in
theorem X_211_275 {d : Nat} {l0 l1 l2 l3 : Option AV} {x : Int} {G : AG} {h : AH} {Q : Option AV → AG → AH → Prop} (hx : x = 0 ∨ x = 1) : wp d 211 275 [l0, l1, l2, l3] [.inl x] G h Q = Q (some (.inl x)) G h := x_retZ rfl hx
set_option maxRecDepth 100000 in
theorem X_211_276 {d : Nat} {l0 l2 l3 : Option AV} {st : List AV} {x : Nat} {G : AG} {h : AH} {Q : Option AV → AG → AH → Prop} : wp d 211 276 [l0, some (.inr (.inr (some x))), l2, l3] st G h Q = wp d 211 277 [l0, some (.inr (.inr (some x))), l2, l3] (.inr (.inr (some x)) :: st) G h Q := wp_nx rfl
set_option maxRecDepth 100000 in
theorem X_211_277 {d : Nat} {l1 l2 l3 : Option AV} {st : List AV} {x : Nat} {G : AG} {h : AH} {Q : Option AV → AG → AH → Prop} : wp d 211 277 [some (.inr (.inr (some x))), l1, l2, l3] st G h Q = wp d 211 278 [some (.inr (.inr (some x))), l1, l2, l3] (.inr (.inr (some x)) :: st) G h Q := wp_nx rfl
set_option maxRecDepth 100000 in
theorem X_211_278 {d : Nat} {l0 l1 l2 : Option AV} {st : List AV} {x : Int} {G : AG} {h : AH} {Q : Option AV → AG → AH → Prop} : wp d 211 278 [l0, l1, l2, some (.inl x)] st G h Q = wp d 211 279 [l0, l1, l2, some (.inl x)] (.inl x :: st) G h Q := wp_nx rfl
set_option maxRecDepth 100000 in
theorem X_211_279 {d : Nat} {l0 l1 l2 l3 : Option AV} {st : List AV} {G : AG} {h : AH} {Q : Option AV → AG → AH → Prop} : wp d 211 279 [l0, l1, l2, l3] st G h Q = wp d 211 280 [l0, l1, l2, l3] (.inl 1 :: st) G h Q := wp_nx rfl
set_option maxRecDepth 100000 in
theorem X_211_280 {d : Nat} {l0 l1 l2 l3 : Option AV} {st : List AV} {x y : Int} {G : AG} {h : AH} {Q : Option AV → AG → AH → Prop} : wp d 211 280 [l0, l1, l2, l3] (.inl y :: .inl x :: st) G h Q = wp d 211 281 [l0, l1, l2, l3] (.inl (x + y) :: st) G h Q := wp_nx rfl
set_option maxRecDepth 100000 in
theorem X_211_281 {d : Nat} {l0 l1 l2 l3 : Option AV} {st : List AV} {i : Int} {G : AG} {h : AH} {Q : Option AV → AG → AH → Prop} (hk : 0 ≤ i ∧ i < h 1002 0 ∧ h 1002 0 ≤ 100000) : wp d 211 281 [l0, l1, l2, l3] (.inl i :: .inr (.inr (some 1001)) :: st) G h Q = wp d 211 282 [l0, l1, l2, l3] (.inl (h 1001 i.toNat) :: st) G h Q := x_scr rfl hk
set_option maxRecDepth 100000 in
theorem X_211_282 {d : Nat} {l1 l2 l3 : Option AV} {st : List AV} {x : Nat} {G : AG} {h : AH} {Q : Option AV → AG → AH → Prop} : wp d 211 282 [some (.inr (.inr (some x))), l1, l2, l3] st G h Q = wp d 211 283 [some (.inr (.inr (some x))), l1, l2, l3] (.inr (.inr (some x)) :: st) G h Q := wp_nx rfl
set_option maxRecDepth 100000 in
theorem X_211_283 {d : Nat} {l0 l1 l2 : Option AV} {st : List AV} {x : Int} {G : AG} {h : AH} {Q : Option AV → AG → AH → Prop} : wp d 211 283 [l0, l1, l2, some (.inl x)] st G h Q = wp d 211 284 [l0, l1, l2, some (.inl x)] (.inl x :: st) G h Q := wp_nx rfl
set_option maxRecDepth 100000 in
theorem X_211_284 {d : Nat} {l0 l1 l2 l3 : Option AV} {st : List AV} {G : AG} {h : AH} {Q : Option AV → AG → AH → Prop} : wp d 211 284 [l0, l1, l2, l3] st G h Q = wp d 211 285 [l0, l1, l2, l3] (.inl 2 :: st) G h Q := wp_nx rfl
set_option maxRecDepth 100000 in
theorem X_211_285 {d : Nat} {l0 l1 l2 l3 : Option AV} {st : List AV} {x y : Int} {G : AG} {h : AH} {Q : Option AV → AG → AH → Prop} : wp d 211 285 [l0, l1, l2, l3] (.inl y :: .inl x :: st) G h Q = wp d 211 286 [l0, l1, l2, l3] (.inl (x + y) :: st) G h Q := wp_nx rfl
set_option maxRecDepth 100000 in
theorem X_211_286 {d : Nat} {l0 l1 l2 l3 : Option AV} {st : List AV} {i : Int} {G : AG} {h : AH} {Q : Option AV → AG → AH → Prop} (hk : 0 ≤ i ∧ i < h 1002 0 ∧ h 1002 0 ≤ 100000) : wp d 211 286 [l0, l1, l2, l3] (.inl i :: .inr (.inr (some 1001)) :: st) G h Q = wp d 211 287 [l0, l1, l2, l3] (.inl (h 1001 i.toNat) :: st) G h Q := x_scr rfl hk
set_option maxRecDepth 100000 in
theorem X_211_287 {d : Nat} {l0 l1 l2 l3 : Option AV} {o : Nat} {a1 a2 : AV} {G : AG} {h : AH} {Q : Option AV → AG → AH → Prop} (hk : (shp G o).1 = 6 ∧ (shp G o).2 = 13) : wp d 211 287 [l0, l1, l2, l3] (a2 :: a1 :: .inr (.inr (some o)) :: []) G h Q = call d 41 [.inr (.inr (some o)), a1, a2] G h (fun r G2 h2 => wp d 211 290 [l0, l1, l2, l3] (pushR r []) G2 h2 Q) := x_inv (virt := 2) (as := [.inr (.inr (some o)), a1, a2]) (rest := []) rfl rfl rfl (Nat.le_of_ble_eq_true rfl) (rcv_ok hk)
set_option maxRecDepth 100000 in
theorem X_211_290 {d : Nat} {l0 l1 l3 : Option AV} {st : List AV} {x : Nat} {G : AG} {h : AH} {Q : Option AV → AG → AH → Prop} : wp d 211 290 [l0, l1, some (.inr (.inr (some x))), l3] st G h Q = wp d 211 291 [l0, l1, some (.inr (.inr (some x))), l3] (.inr (.inr (some x)) :: st) G h Q := wp_nx rfl
set_option maxRecDepth 100000 in
theorem X_211_291 {d : Nat} {l1 l2 l3 : Option AV} {st : List AV} {x : Nat} {G : AG} {h : AH} {Q : Option AV → AG → AH → Prop} : wp d 211 291 [some (.inr (.inr (some x))), l1, l2, l3] st G h Q = wp d 211 292 [some (.inr (.inr (some x))), l1, l2, l3] (.inr (.inr (some x)) :: st) G h Q := wp_nx rfl
set_option maxRecDepth 100000 in
theorem X_211_292 {d : Nat} {l0 l1 l2 : Option AV} {st : List AV} {x : Int} {G : AG} {h : AH} {Q : Option AV → AG → AH → Prop} : wp d 211 292 [l0, l1, l2, some (.inl x)] st G h Q = wp d 211 293 [l0, l1, l2, some (.inl x)] (.inl x :: st) G h Q := wp_nx rfl
set_option maxRecDepth 100000 in
theorem X_211_293 {d : Nat} {l0 l1 l2 l3 : Option AV} {st : List AV} {G : AG} {h : AH} {Q : Option AV → AG → AH → Prop} : wp d 211 293 [l0, l1, l2, l3] st G h Q = wp d 211 294 [l0, l1, l2, l3] (.inl 1 :: st) G h Q := wp_nx rfl
set_option maxRecDepth 100000 in
theorem X_211_294 {d : Nat} {l0 l1 l2 l3 : Option AV} {st : List AV} {x y : Int} {G : AG} {h : AH} {Q : Option AV → AG → AH → Prop} : wp d 211 294 [l0, l1, l2, l3] (.inl y :: .inl x :: st) G h Q = wp d 211 295 [l0, l1, l2, l3] (.inl (x + y) :: st) G h Q := wp_nx rfl
set_option maxRecDepth 100000 in
theorem X_211_295 {d : Nat} {l0 l1 l2 l3 : Option AV} {st : List AV} {i : Int} {G : AG} {h : AH} {Q : Option AV → AG → AH → Prop} (hk : 0 ≤ i ∧ i < h 1002 0 ∧ h 1002 0 ≤ 100000) : wp d 211 295 [l0, l1, l2, l3] (.inl i :: .inr (.inr (some 1001)) :: st) G h Q = wp d 211 296 [l0, l1, l2, l3] (.inl (h 1001 i.toNat) :: st) G h Q := x_scr rfl hk
set_option maxRecDepth 100000 in
theorem X_211_296 {d : Nat} {l1 l2 l3 : Option AV} {st : List AV} {x : Nat} {G : AG} {h : AH} {Q : Option AV → AG → AH → Prop} : wp d 211 296 [some (.inr (.inr (some x))), l1, l2, l3] st G h Q = wp d 211 297 [some (.inr (.inr (some x))), l1, l2, l3] (.inr (.inr (some x)) :: st) G h Q := wp_nx rfl
set_option maxRecDepth 100000 in
theorem X_211_297 {d : Nat} {l0 l1 l2 : Option AV} {st : List AV} {x : Int} {G : AG} {h : AH} {Q : Option AV → AG → AH → Prop} : wp d 211 297 [l0, l1, l2, some (.inl x)] st G h Q = wp d 211 298 [l0, l1, l2, some (.inl x)] (.inl x :: st) G h Q := wp_nx rfl
set_option maxRecDepth 100000 in
theorem X_211_298 {d : Nat} {l0 l1 l2 l3 : Option AV} {st : List AV} {G : AG} {h : AH} {Q : Option AV → AG → AH → Prop} : wp d 211 298 [l0, l1, l2, l3] st G h Q = wp d 211 299 [l0, l1, l2, l3] (.inl 2 :: st) G h Q := wp_nx rfl
set_option maxRecDepth 100000 in
theorem X_211_299 {d : Nat} {l0 l1 l2 l3 : Option AV} {st : List AV} {x y : Int} {G : AG} {h : AH} {Q : Option AV → AG → AH → Prop} : wp d 211 299 [l0, l1, l2, l3] (.inl y :: .inl x :: st) G h Q = wp d 211 300 [l0, l1, l2, l3] (.inl (x + y) :: st) G h Q := wp_nx rfl
set_option maxRecDepth 100000 in
theorem X_211_300 {d : Nat} {l0 l1 l2 l3 : Option AV} {st : List AV} {i : Int} {G : AG} {h : AH} {Q : Option AV → AG → AH → Prop} (hk : 0 ≤ i ∧ i < h 1002 0 ∧ h 1002 0 ≤ 100000) : wp d 211 300 [l0, l1, l2, l3] (.inl i :: .inr (.inr (some 1001)) :: st) G h Q = wp d 211 301 [l0, l1, l2, l3] (.inl (h 1001 i.toNat) :: st) G h Q := x_scr rfl hk
set_option maxRecDepth 100000 in
theorem X_211_301 {d : Nat} {l0 l1 l2 l3 : Option AV} {o : Nat} {a1 a2 : AV} {s0 : AV} {G : AG} {h : AH} {Q : Option AV → AG → AH → Prop} (hk : (shp G o).1 = 7 ∧ (shp G o).2 = 20) : wp d 211 301 [l0, l1, l2, l3] (a2 :: a1 :: .inr (.inr (some o)) :: [s0]) G h Q = call d 126 [.inr (.inr (some o)), a1, a2] G h (fun r G2 h2 => wp d 211 304 [l0, l1, l2, l3] (pushR r [s0]) G2 h2 Q) := x_inv (virt := 3) (as := [.inr (.inr (some o)), a1, a2]) (rest := [s0]) rfl rfl rfl (Nat.le_of_ble_eq_true rfl) (rcv_ok hk)
set_option maxRecDepth 100000 in
theorem X_211_304 {d : Nat} {l0 l1 l2 l3 : Option AV} {st : List AV} {x y : Int} {G : AG} {h : AH} {Q : Option AV → AG → AH → Prop} (hx : (((-2147483648 ≤ x ∧ x < 2147483648) ∧ (-2147483648 ≤ y ∧ y < 2147483648)) ∨ x = y)) : wp d 211 304 [l0, l1, l2, l3] (.inl y :: .inl x :: st) G h Q = if x = y then wp d 211 1337 [l0, l1, l2, l3] st G h Q else wp d 211 307 [l0, l1, l2, l3] st G h Q := x_icc (x = y) (tst_eq x y) rfl rfl hx
set_option maxRecDepth 100000 in
theorem X_211_304_t {d : Nat} {l0 l1 l2 l3 : Option AV} {st : List AV} {x y : Int} {G : AG} {h : AH} {Q : Option AV → AG → AH → Prop} (hx : (((-2147483648 ≤ x ∧ x < 2147483648) ∧ (-2147483648 ≤ y ∧ y < 2147483648)) ∨ x = y) ∧ x = y) : wp d 211 304 [l0, l1, l2, l3] (.inl y :: .inl x :: st) G h Q = wp d 211 1337 [l0, l1, l2, l3] st G h Q := x_ict (x = y) (tst_eq x y) rfl rfl hx
set_option maxRecDepth 100000 in
theorem X_211_304_f {d : Nat} {l0 l1 l2 l3 : Option AV} {st : List AV} {x y : Int} {G : AG} {h : AH} {Q : Option AV → AG → AH → Prop} (hx : (((-2147483648 ≤ x ∧ x < 2147483648) ∧ (-2147483648 ≤ y ∧ y < 2147483648)) ∨ x = y) ∧ ¬ (x = y)) : wp d 211 304 [l0, l1, l2, l3] (.inl y :: .inl x :: st) G h Q = wp d 211 307 [l0, l1, l2, l3] st G h Q := x_icf (x = y) (tst_eq x y) (tgt := 1337) rfl rfl hx
set_option maxRecDepth 100000 in
theorem X_211_307 {d : Nat} {l0 l1 l2 l3 : Option AV} {st : List AV} {G : AG} {h : AH} {Q : Option AV → AG → AH → Prop} : wp d 211 307 [l0, l1, l2, l3] st G h Q = wp d 211 308 [l0, l1, l2, l3] (.inl 0 :: st) G h Q := wp_nx rfl
set_option maxRecDepth 100000 in
theorem X_211_308 {d : Nat} {l0 l1 l2 l3 : Option AV} {x : Int} {G : AG} {h : AH} {Q : Option AV → AG → AH → Prop} (hx : x = 0 ∨ x = 1) : wp d 211 308 [l0, l1, l2, l3] [.inl x] G h Q = Q (some (.inl x)) G h := x_retZ rfl hx
set_option maxRecDepth 100000 in
theorem X_211_309 {d : Nat} {l0 l2 l3 : Option AV} {st : List AV} {x : Nat} {G : AG} {h : AH} {Q : Option AV → AG → AH → Prop} : wp d 211 309 [l0, some (.inr (.inr (some x))), l2, l3] st G h Q = wp d 211 310 [l0, some (.inr (.inr (some x))), l2, l3] (.inr (.inr (some x)) :: st) G h Q := wp_nx rfl
set_option maxRecDepth 100000 in
theorem X_211_310 {d : Nat} {l1 l2 l3 : Option AV} {st : List AV} {x : Nat} {G : AG} {h : AH} {Q : Option AV → AG → AH → Prop} : wp d 211 310 [some (.inr (.inr (some x))), l1, l2, l3] st G h Q = wp d 211 311 [some (.inr (.inr (some x))), l1, l2, l3] (.inr (.inr (some x)) :: st) G h Q := wp_nx rfl
set_option maxRecDepth 100000 in
theorem X_211_311 {d : Nat} {l0 l1 l2 : Option AV} {st : List AV} {x : Int} {G : AG} {h : AH} {Q : Option AV → AG → AH → Prop} : wp d 211 311 [l0, l1, l2, some (.inl x)] st G h Q = wp d 211 312 [l0, l1, l2, some (.inl x)] (.inl x :: st) G h Q := wp_nx rfl
set_option maxRecDepth 100000 in
theorem X_211_312 {d : Nat} {l0 l1 l2 l3 : Option AV} {st : List AV} {G : AG} {h : AH} {Q : Option AV → AG → AH → Prop} : wp d 211 312 [l0, l1, l2, l3] st G h Q = wp d 211 313 [l0, l1, l2, l3] (.inl 1 :: st) G h Q := wp_nx rfl
set_option maxRecDepth 100000 in
theorem X_211_313 {d : Nat} {l0 l1 l2 l3 : Option AV} {st : List AV} {x y : Int} {G : AG} {h : AH} {Q : Option AV → AG → AH → Prop} : wp d 211 313 [l0, l1, l2, l3] (.inl y :: .inl x :: st) G h Q = wp d 211 314 [l0, l1, l2, l3] (.inl (x + y) :: st) G h Q := wp_nx rfl
set_option maxRecDepth 100000 in
theorem X_211_314 {d : Nat} {l0 l1 l2 l3 : Option AV} {st : List AV} {i : Int} {G : AG} {h : AH} {Q : Option AV → AG → AH → Prop} (hk : 0 ≤ i ∧ i < h 1002 0 ∧ h 1002 0 ≤ 100000) : wp d 211 314 [l0, l1, l2, l3] (.inl i :: .inr (.inr (some 1001)) :: st) G h Q = wp d 211 315 [l0, l1, l2, l3] (.inl (h 1001 i.toNat) :: st) G h Q := x_scr rfl hk
set_option maxRecDepth 100000 in
theorem X_211_315 {d : Nat} {l0 l1 l2 l3 : Option AV} {o : Nat} {a1 : AV} {G : AG} {h : AH} {Q : Option AV → AG → AH → Prop} (hk : (shp G o).1 = 6 ∧ (shp G o).2 = 13) : wp d 211 315 [l0, l1, l2, l3] (a1 :: .inr (.inr (some o)) :: []) G h Q = call d 42 [.inr (.inr (some o)), a1] G h (fun r G2 h2 => wp d 211 318 [l0, l1, l2, l3] (pushR r []) G2 h2 Q) := x_inv (virt := 2) (as := [.inr (.inr (some o)), a1]) (rest := []) rfl rfl rfl (Nat.le_of_ble_eq_true rfl) (rcv_ok hk)
set_option maxRecDepth 100000 in
theorem X_211_318 {d : Nat} {l0 l1 l3 : Option AV} {st : List AV} {x : Nat} {G : AG} {h : AH} {Q : Option AV → AG → AH → Prop} : wp d 211 318 [l0, l1, some (.inr (.inr (some x))), l3] st G h Q = wp d 211 319 [l0, l1, some (.inr (.inr (some x))), l3] (.inr (.inr (some x)) :: st) G h Q := wp_nx rfl
set_option maxRecDepth 100000 in
theorem X_211_319 {d : Nat} {l1 l2 l3 : Option AV} {st : List AV} {x : Nat} {G : AG} {h : AH} {Q : Option AV → AG → AH → Prop} : wp d 211 319 [some (.inr (.inr (some x))), l1, l2, l3] st G h Q = wp d 211 320 [some (.inr (.inr (some x))), l1, l2, l3] (.inr (.inr (some x)) :: st) G h Q := wp_nx rfl
set_option maxRecDepth 100000 in
theorem X_211_320 {d : Nat} {l0 l1 l2 : Option AV} {st : List AV} {x : Int} {G : AG} {h : AH} {Q : Option AV → AG → AH → Prop} : wp d 211 320 [l0, l1, l2, some (.inl x)] st G h Q = wp d 211 321 [l0, l1, l2, some (.inl x)] (.inl x :: st) G h Q := wp_nx rfl
set_option maxRecDepth 100000 in
theorem X_211_321 {d : Nat} {l0 l1 l2 l3 : Option AV} {st : List AV} {G : AG} {h : AH} {Q : Option AV → AG → AH → Prop} : wp d 211 321 [l0, l1, l2, l3] st G h Q = wp d 211 322 [l0, l1, l2, l3] (.inl 1 :: st) G h Q := wp_nx rfl
set_option maxRecDepth 100000 in
theorem X_211_322 {d : Nat} {l0 l1 l2 l3 : Option AV} {st : List AV} {x y : Int} {G : AG} {h : AH} {Q : Option AV → AG → AH → Prop} : wp d 211 322 [l0, l1, l2, l3] (.inl y :: .inl x :: st) G h Q = wp d 211 323 [l0, l1, l2, l3] (.inl (x + y) :: st) G h Q := wp_nx rfl
set_option maxRecDepth 100000 in
theorem X_211_323 {d : Nat} {l0 l1 l2 l3 : Option AV} {st : List AV} {i : Int} {G : AG} {h : AH} {Q : Option AV → AG → AH → Prop} (hk : 0 ≤ i ∧ i < h 1002 0 ∧ h 1002 0 ≤ 100000) : wp d 211 323 [l0, l1, l2, l3] (.inl i :: .inr (.inr (some 1001)) :: st) G h Q = wp d 211 324 [l0, l1, l2, l3] (.inl (h 1001 i.toNat) :: st) G h Q := x_scr rfl hk
set_option maxRecDepth 100000 in
theorem X_211_324 {d : Nat} {l0 l1 l2 l3 : Option AV} {o : Nat} {a1 : AV} {s0 : AV} {G : AG} {h : AH} {Q : Option AV → AG → AH → Prop} (hk : (shp G o).1 = 7 ∧ (shp G o).2 = 20) : wp d 211 324 [l0, l1, l2, l3] (a1 :: .inr (.inr (some o)) :: [s0]) G h Q = call d 127 [.inr (.inr (some o)), a1] G h (fun r G2 h2 => wp d 211 327 [l0, l1, l2, l3] (pushR r [s0]) G2 h2 Q) := x_inv (virt := 3) (as := [.inr (.inr (some o)), a1]) (rest := [s0]) rfl rfl rfl (Nat.le_of_ble_eq_true rfl) (rcv_ok hk)
set_option maxRecDepth 100000 in
theorem X_211_327 {d : Nat} {l0 l1 l2 l3 : Option AV} {st : List AV} {x y : Int} {G : AG} {h : AH} {Q : Option AV → AG → AH → Prop} (hx : (((-2147483648 ≤ x ∧ x < 2147483648) ∧ (-2147483648 ≤ y ∧ y < 2147483648)) ∨ x = y)) : wp d 211 327 [l0, l1, l2, l3] (.inl y :: .inl x :: st) G h Q = if x = y then wp d 211 1337 [l0, l1, l2, l3] st G h Q else wp d 211 330 [l0, l1, l2, l3] st G h Q := x_icc (x = y) (tst_eq x y) rfl rfl hx
set_option maxRecDepth 100000 in
theorem X_211_327_t {d : Nat} {l0 l1 l2 l3 : Option AV} {st : List AV} {x y : Int} {G : AG} {h : AH} {Q : Option AV → AG → AH → Prop} (hx : (((-2147483648 ≤ x ∧ x < 2147483648) ∧ (-2147483648 ≤ y ∧ y < 2147483648)) ∨ x = y) ∧ x = y) : wp d 211 327 [l0, l1, l2, l3] (.inl y :: .inl x :: st) G h Q = wp d 211 1337 [l0, l1, l2, l3] st G h Q := x_ict (x = y) (tst_eq x y) rfl rfl hx
set_option maxRecDepth 100000 in
theorem X_211_327_f {d : Nat} {l0 l1 l2 l3 : Option AV} {st : List AV} {x y : Int} {G : AG} {h : AH} {Q : Option AV → AG → AH → Prop} (hx : (((-2147483648 ≤ x ∧ x < 2147483648) ∧ (-2147483648 ≤ y ∧ y < 2147483648)) ∨ x = y) ∧ ¬ (x = y)) : wp d 211 327 [l0, l1, l2, l3] (.inl y :: .inl x :: st) G h Q = wp d 211 330 [l0, l1, l2, l3] st G h Q := x_icf (x = y) (tst_eq x y) (tgt := 1337) rfl rfl hx
set_option maxRecDepth 100000 in
theorem X_211_330 {d : Nat} {l0 l1 l2 l3 : Option AV} {st : List AV} {G : AG} {h : AH} {Q : Option AV → AG → AH → Prop} : wp d 211 330 [l0, l1, l2, l3] st G h Q = wp d 211 331 [l0, l1, l2, l3] (.inl 0 :: st) G h Q := wp_nx rfl
set_option maxRecDepth 100000 in
theorem X_211_331 {d : Nat} {l0 l1 l2 l3 : Option AV} {x : Int} {G : AG} {h : AH} {Q : Option AV → AG → AH → Prop} (hx : x = 0 ∨ x = 1) : wp d 211 331 [l0, l1, l2, l3] [.inl x] G h Q = Q (some (.inl x)) G h := x_retZ rfl hx
set_option maxRecDepth 100000 in
theorem X_211_332 {d : Nat} {l0 l2 l3 : Option AV} {st : List AV} {x : Nat} {G : AG} {h : AH} {Q : Option AV → AG → AH → Prop} : wp d 211 332 [l0, some (.inr (.inr (some x))), l2, l3] st G h Q = wp d 211 333 [l0, some (.inr (.inr (some x))), l2, l3] (.inr (.inr (some x)) :: st) G h Q := wp_nx rfl
set_option maxRecDepth 100000 in
theorem X_211_333 {d : Nat} {l1 l2 l3 : Option AV} {st : List AV} {x : Nat} {G : AG} {h : AH} {Q : Option AV → AG → AH → Prop} : wp d 211 333 [some (.inr (.inr (some x))), l1, l2, l3] st G h Q = wp d 211 334 [some (.inr (.inr (some x))), l1, l2, l3] (.inr (.inr (some x)) :: st) G h Q := wp_nx rfl
set_option maxRecDepth 100000 in
theorem X_211_334 {d : Nat} {l0 l1 l2 : Option AV} {st : List AV} {x : Int} {G : AG} {h : AH} {Q : Option AV → AG → AH → Prop} : wp d 211 334 [l0, l1, l2, some (.inl x)] st G h Q = wp d 211 335 [l0, l1, l2, some (.inl x)] (.inl x :: st) G h Q := wp_nx rfl
set_option maxRecDepth 100000 in
theorem X_211_335 {d : Nat} {l0 l1 l2 l3 : Option AV} {st : List AV} {G : AG} {h : AH} {Q : Option AV → AG → AH → Prop} : wp d 211 335 [l0, l1, l2, l3] st G h Q = wp d 211 336 [l0, l1, l2, l3] (.inl 1 :: st) G h Q := wp_nx rfl
set_option maxRecDepth 100000 in
theorem X_211_336 {d : Nat} {l0 l1 l2 l3 : Option AV} {st : List AV} {x y : Int} {G : AG} {h : AH} {Q : Option AV → AG → AH → Prop} : wp d 211 336 [l0, l1, l2, l3] (.inl y :: .inl x :: st) G h Q = wp d 211 337 [l0, l1, l2, l3] (.inl (x + y) :: st) G h Q := wp_nx rfl
set_option maxRecDepth 100000 in
theorem X_211_337 {d : Nat} {l0 l1 l2 l3 : Option AV} {st : List AV} {i : Int} {G : AG} {h : AH} {Q : Option AV → AG → AH → Prop} (hk : 0 ≤ i ∧ i < h 1002 0 ∧ h 1002 0 ≤ 100000) : wp d 211 337 [l0, l1, l2, l3] (.inl i :: .inr (.inr (some 1001)) :: st) G h Q = wp d 211 338 [l0, l1, l2, l3] (.inl (h 1001 i.toNat) :: st) G h Q := x_scr rfl hk
set_option maxRecDepth 100000 in
theorem X_211_338 {d : Nat} {l1 l2 l3 : Option AV} {st : List AV} {x : Nat} {G : AG} {h : AH} {Q : Option AV → AG → AH → Prop} : wp d 211 338 [some (.inr (.inr (some x))), l1, l2, l3] st G h Q = wp d 211 339 [some (.inr (.inr (some x))), l1, l2, l3] (.inr (.inr (some x)) :: st) G h Q := wp_nx rfl
set_option maxRecDepth 100000 in
theorem X_211_339 {d : Nat} {l0 l1 l2 : Option AV} {st : List AV} {x : Int} {G : AG} {h : AH} {Q : Option AV → AG → AH → Prop} : wp d 211 339 [l0, l1, l2, some (.inl x)] st G h Q = wp d 211 340 [l0, l1, l2, some (.inl x)] (.inl x :: st) G h Q := wp_nx rfl
set_option maxRecDepth 100000 in
theorem X_211_340 {d : Nat} {l0 l1 l2 l3 : Option AV} {st : List AV} {G : AG} {h : AH} {Q : Option AV → AG → AH → Prop} : wp d 211 340 [l0, l1, l2, l3] st G h Q = wp d 211 341 [l0, l1, l2, l3] (.inl 2 :: st) G h Q := wp_nx rfl
set_option maxRecDepth 100000 in
theorem X_211_341 {d : Nat} {l0 l1 l2 l3 : Option AV} {st : List AV} {x y : Int} {G : AG} {h : AH} {Q : Option AV → AG → AH → Prop} : wp d 211 341 [l0, l1, l2, l3] (.inl y :: .inl x :: st) G h Q = wp d 211 342 [l0, l1, l2, l3] (.inl (x + y) :: st) G h Q := wp_nx rfl
set_option maxRecDepth 100000 in
theorem X_211_342 {d : Nat} {l0 l1 l2 l3 : Option AV} {st : List AV} {i : Int} {G : AG} {h : AH} {Q : Option AV → AG → AH → Prop} (hk : 0 ≤ i ∧ i < h 1002 0 ∧ h 1002 0 ≤ 100000) : wp d 211 342 [l0, l1, l2, l3] (.inl i :: .inr (.inr (some 1001)) :: st) G h Q = wp d 211 343 [l0, l1, l2, l3] (.inl (h 1001 i.toNat) :: st) G h Q := x_scr rfl hk
set_option maxRecDepth 100000 in
theorem X_211_343 {d : Nat} {l1 l2 l3 : Option AV} {st : List AV} {x : Nat} {G : AG} {h : AH} {Q : Option AV → AG → AH → Prop} : wp d 211 343 [some (.inr (.inr (some x))), l1, l2, l3] st G h Q = wp d 211 344 [some (.inr (.inr (some x))), l1, l2, l3] (.inr (.inr (some x)) :: st) G h Q := wp_nx rfl
set_option maxRecDepth 100000 in
theorem X_211_344 {d : Nat} {l0 l1 l2 : Option AV} {st : List AV} {x : Int} {G : AG} {h : AH} {Q : Option AV → AG → AH → Prop} : wp d 211 344 [l0, l1, l2, some (.inl x)] st G h Q = wp d 211 345 [l0, l1, l2, some (.inl x)] (.inl x :: st) G h Q := wp_nx rfl
set_option maxRecDepth 100000 in
theorem X_211_345 {d : Nat} {l0 l1 l2 l3 : Option AV} {st : List AV} {G : AG} {h : AH} {Q : Option AV → AG → AH → Prop} : wp d 211 345 [l0, l1, l2, l3] st G h Q = wp d 211 346 [l0, l1, l2, l3] (.inl 3 :: st) G h Q := wp_nx rfl
set_option maxRecDepth 100000 in
theorem X_211_346 {d : Nat} {l0 l1 l2 l3 : Option AV} {st : List AV} {x y : Int} {G : AG} {h : AH} {Q : Option AV → AG → AH → Prop} : wp d 211 346 [l0, l1, l2, l3] (.inl y :: .inl x :: st) G h Q = wp d 211 347 [l0, l1, l2, l3] (.inl (x + y) :: st) G h Q := wp_nx rfl
set_option maxRecDepth 100000 in
theorem X_211_347 {d : Nat} {l0 l1 l2 l3 : Option AV} {st : List AV} {i : Int} {G : AG} {h : AH} {Q : Option AV → AG → AH → Prop} (hk : 0 ≤ i ∧ i < h 1002 0 ∧ h 1002 0 ≤ 100000) : wp d 211 347 [l0, l1, l2, l3] (.inl i :: .inr (.inr (some 1001)) :: st) G h Q = wp d 211 348 [l0, l1, l2, l3] (.inl (h 1001 i.toNat) :: st) G h Q := x_scr rfl hk
set_option maxRecDepth 100000 in
theorem X_211_348 {d : Nat} {l1 l2 l3 : Option AV} {st : List AV} {x : Nat} {G : AG} {h : AH} {Q : Option AV → AG → AH → Prop} : wp d 211 348 [some (.inr (.inr (some x))), l1, l2, l3] st G h Q = wp d 211 349 [some (.inr (.inr (some x))), l1, l2, l3] (.inr (.inr (some x)) :: st) G h Q := wp_nx rfl
set_option maxRecDepth 100000 in
theorem X_211_349 {d : Nat} {l0 l1 l2 : Option AV} {st : List AV} {x : Int} {G : AG} {h : AH} {Q : Option AV → AG → AH → Prop} : wp d 211 349 [l0, l1, l2, some (.inl x)] st G h Q = wp d 211 350 [l0, l1, l2, some (.inl x)] (.inl x :: st) G h Q := wp_nx rfl
set_option maxRecDepth 100000 in
theorem X_211_350 {d : Nat} {l0 l1 l2 l3 : Option AV} {st : List AV} {G : AG} {h : AH} {Q : Option AV → AG → AH → Prop} : wp d 211 350 [l0, l1, l2, l3] st G h Q = wp d 211 351 [l0, l1, l2, l3] (.inl 4 :: st) G h Q := wp_nx rfl
set_option maxRecDepth 100000 in
theorem X_211_351 {d : Nat} {l0 l1 l2 l3 : Option AV} {st : List AV} {x y : Int} {G : AG} {h : AH} {Q : Option AV → AG → AH → Prop} : wp d 211 351 [l0, l1, l2, l3] (.inl y :: .inl x :: st) G h Q = wp d 211 352 [l0, l1, l2, l3] (.inl (x + y) :: st) G h Q := wp_nx rfl
set_option maxRecDepth 100000 in
theorem X_211_352 {d : Nat} {l0 l1 l2 l3 : Option AV} {st : List AV} {i : Int} {G : AG} {h : AH} {Q : Option AV → AG → AH → Prop} (hk : 0 ≤ i ∧ i < h 1002 0 ∧ h 1002 0 ≤ 100000) : wp d 211 352 [l0, l1, l2, l3] (.inl i :: .inr (.inr (some 1001)) :: st) G h Q = wp d 211 353 [l0, l1, l2, l3] (.inl (h 1001 i.toNat) :: st) G h Q := x_scr rfl hk
set_option maxRecDepth 100000 in
theorem X_211_353 {d : Nat} {l1 l2 l3 : Option AV} {st : List AV} {x : Nat} {G : AG} {h : AH} {Q : Option AV → AG → AH → Prop} : wp d 211 353 [some (.inr (.inr (some x))), l1, l2, l3] st G h Q = wp d 211 354 [some (.inr (.inr (some x))), l1, l2, l3] (.inr (.inr (some x)) :: st) G h Q := wp_nx rfl
set_option maxRecDepth 100000 in
theorem X_211_354 {d : Nat} {l0 l1 l2 : Option AV} {st : List AV} {x : Int} {G : AG} {h : AH} {Q : Option AV → AG → AH → Prop} : wp d 211 354 [l0, l1, l2, some (.inl x)] st G h Q = wp d 211 355 [l0, l1, l2, some (.inl x)] (.inl x :: st) G h Q := wp_nx rfl
set_option maxRecDepth 100000 in
theorem X_211_355 {d : Nat} {l0 l1 l2 l3 : Option AV} {st : List AV} {G : AG} {h : AH} {Q : Option AV → AG → AH → Prop} : wp d 211 355 [l0, l1, l2, l3] st G h Q = wp d 211 356 [l0, l1, l2, l3] (.inl 5 :: st) G h Q := wp_nx rfl
set_option maxRecDepth 100000 in
theorem X_211_356 {d : Nat} {l0 l1 l2 l3 : Option AV} {st : List AV} {x y : Int} {G : AG} {h : AH} {Q : Option AV → AG → AH → Prop} : wp d 211 356 [l0, l1, l2, l3] (.inl y :: .inl x :: st) G h Q = wp d 211 357 [l0, l1, l2, l3] (.inl (x + y) :: st) G h Q := wp_nx rfl
set_option maxRecDepth 100000 in
theorem X_211_357 {d : Nat} {l0 l1 l2 l3 : Option AV} {st : List AV} {i : Int} {G : AG} {h : AH} {Q : Option AV → AG → AH → Prop} (hk : 0 ≤ i ∧ i < h 1002 0 ∧ h 1002 0 ≤ 100000) : wp d 211 357 [l0, l1, l2, l3] (.inl i :: .inr (.inr (some 1001)) :: st) G h Q = wp d 211 358 [l0, l1, l2, l3] (.inl (h 1001 i.toNat) :: st) G h Q := x_scr rfl hk
set_option maxRecDepth 100000 in
theorem X_211_358 {d : Nat} {l0 l1 l2 l3 : Option AV} {o : Nat} {a1 a2 a3 a4 a5 : AV} {G : AG} {h : AH} {Q : Option AV → AG → AH → Prop} (hk : (shp G o).1 = 6 ∧ (shp G o).2 = 13) : wp d 211 358 [l0, l1, l2, l3] (a5 :: a4 :: a3 :: a2 :: a1 :: .inr (.inr (some o)) :: []) G h Q = call d 43 [.inr (.inr (some o)), a1, a2, a3, a4, a5] G h (fun r G2 h2 => wp d 211 361 [l0, l1, l2, l3] (pushR r []) G2 h2 Q) := x_inv (virt := 2) (as := [.inr (.inr (some o)), a1, a2, a3, a4, a5]) (rest := []) rfl rfl rfl (Nat.le_of_ble_eq_true rfl) (rcv_ok hk)
set_option maxRecDepth 100000 in
theorem X_211_361 {d : Nat} {l0 l1 l3 : Option AV} {st : List AV} {x : Nat} {G : AG} {h : AH} {Q : Option AV → AG → AH → Prop} : wp d 211 361 [l0, l1, some (.inr (.inr (some x))), l3] st G h Q = wp d 211 362 [l0, l1, some (.inr (.inr (some x))), l3] (.inr (.inr (some x)) :: st) G h Q := wp_nx rfl
set_option maxRecDepth 100000 in
theorem X_211_362 {d : Nat} {l1 l2 l3 : Option AV} {st : List AV} {x : Nat} {G : AG} {h : AH} {Q : Option AV → AG → AH → Prop} : wp d 211 362 [some (.inr (.inr (some x))), l1, l2, l3] st G h Q = wp d 211 363 [some (.inr (.inr (some x))), l1, l2, l3] (.inr (.inr (some x)) :: st) G h Q := wp_nx rfl
set_option maxRecDepth 100000 in
theorem X_211_363 {d : Nat} {l0 l1 l2 : Option AV} {st : List AV} {x : Int} {G : AG} {h : AH} {Q : Option AV → AG → AH → Prop} : wp d 211 363 [l0, l1, l2, some (.inl x)] st G h Q = wp d 211 364 [l0, l1, l2, some (.inl x)] (.inl x :: st) G h Q := wp_nx rfl
set_option maxRecDepth 100000 in
theorem X_211_364 {d : Nat} {l0 l1 l2 l3 : Option AV} {st : List AV} {G : AG} {h : AH} {Q : Option AV → AG → AH → Prop} : wp d 211 364 [l0, l1, l2, l3] st G h Q = wp d 211 365 [l0, l1, l2, l3] (.inl 1 :: st) G h Q := wp_nx rfl
set_option maxRecDepth 100000 in
theorem X_211_365 {d : Nat} {l0 l1 l2 l3 : Option AV} {st : List AV} {x y : Int} {G : AG} {h : AH} {Q : Option AV → AG → AH → Prop} : wp d 211 365 [l0, l1, l2, l3] (.inl y :: .inl x :: st) G h Q = wp d 211 366 [l0, l1, l2, l3] (.inl (x + y) :: st) G h Q := wp_nx rfl
set_option maxRecDepth 100000 in
theorem X_211_366 {d : Nat} {l0 l1 l2 l3 : Option AV} {st : List AV} {i : Int} {G : AG} {h : AH} {Q : Option AV → AG → AH → Prop} (hk : 0 ≤ i ∧ i < h 1002 0 ∧ h 1002 0 ≤ 100000) : wp d 211 366 [l0, l1, l2, l3] (.inl i :: .inr (.inr (some 1001)) :: st) G h Q = wp d 211 367 [l0, l1, l2, l3] (.inl (h 1001 i.toNat) :: st) G h Q := x_scr rfl hk
set_option maxRecDepth 100000 in
theorem X_211_367 {d : Nat} {l1 l2 l3 : Option AV} {st : List AV} {x : Nat} {G : AG} {h : AH} {Q : Option AV → AG → AH → Prop} : wp d 211 367 [some (.inr (.inr (some x))), l1, l2, l3] st G h Q = wp d 211 368 [some (.inr (.inr (some x))), l1, l2, l3] (.inr (.inr (some x)) :: st) G h Q := wp_nx rfl
set_option maxRecDepth 100000 in
theorem X_211_368 {d : Nat} {l0 l1 l2 : Option AV} {st : List AV} {x : Int} {G : AG} {h : AH} {Q : Option AV → AG → AH → Prop} : wp d 211 368 [l0, l1, l2, some (.inl x)] st G h Q = wp d 211 369 [l0, l1, l2, some (.inl x)] (.inl x :: st) G h Q := wp_nx rfl
set_option maxRecDepth 100000 in
theorem X_211_369 {d : Nat} {l0 l1 l2 l3 : Option AV} {st : List AV} {G : AG} {h : AH} {Q : Option AV → AG → AH → Prop} : wp d 211 369 [l0, l1, l2, l3] st G h Q = wp d 211 370 [l0, l1, l2, l3] (.inl 2 :: st) G h Q := wp_nx rfl
set_option maxRecDepth 100000 in
theorem X_211_370 {d : Nat} {l0 l1 l2 l3 : Option AV} {st : List AV} {x y : Int} {G : AG} {h : AH} {Q : Option AV → AG → AH → Prop} : wp d 211 370 [l0, l1, l2, l3] (.inl y :: .inl x :: st) G h Q = wp d 211 371 [l0, l1, l2, l3] (.inl (x + y) :: st) G h Q := wp_nx rfl
set_option maxRecDepth 100000 in
theorem X_211_371 {d : Nat} {l0 l1 l2 l3 : Option AV} {st : List AV} {i : Int} {G : AG} {h : AH} {Q : Option AV → AG → AH → Prop} (hk : 0 ≤ i ∧ i < h 1002 0 ∧ h 1002 0 ≤ 100000) : wp d 211 371 [l0, l1, l2, l3] (.inl i :: .inr (.inr (some 1001)) :: st) G h Q = wp d 211 372 [l0, l1, l2, l3] (.inl (h 1001 i.toNat) :: st) G h Q := x_scr rfl hk
set_option maxRecDepth 100000 in
theorem X_211_372 {d : Nat} {l1 l2 l3 : Option AV} {st : List AV} {x : Nat} {G : AG} {h : AH} {Q : Option AV → AG → AH → Prop} : wp d 211 372 [some (.inr (.inr (some x))), l1, l2, l3] st G h Q = wp d 211 373 [some (.inr (.inr (some x))), l1, l2, l3] (.inr (.inr (some x)) :: st) G h Q := wp_nx rfl
set_option maxRecDepth 100000 in
theorem X_211_373 {d : Nat} {l0 l1 l2 : Option AV} {st : List AV} {x : Int} {G : AG} {h : AH} {Q : Option AV → AG → AH → Prop} : wp d 211 373 [l0, l1, l2, some (.inl x)] st G h Q = wp d 211 374 [l0, l1, l2, some (.inl x)] (.inl x :: st) G h Q := wp_nx rfl
set_option maxRecDepth 100000 in
theorem X_211_374 {d : Nat} {l0 l1 l2 l3 : Option AV} {st : List AV} {G : AG} {h : AH} {Q : Option AV → AG → AH → Prop} : wp d 211 374 [l0, l1, l2, l3] st G h Q = wp d 211 375 [l0, l1, l2, l3] (.inl 3 :: st) G h Q := wp_nx rfl
set_option maxRecDepth 100000 in
theorem X_211_375 {d : Nat} {l0 l1 l2 l3 : Option AV} {st : List AV} {x y : Int} {G : AG} {h : AH} {Q : Option AV → AG → AH → Prop} : wp d 211 375 [l0, l1, l2, l3] (.inl y :: .inl x :: st) G h Q = wp d 211 376 [l0, l1, l2, l3] (.inl (x + y) :: st) G h Q := wp_nx rfl
set_option maxRecDepth 100000 in
theorem X_211_376 {d : Nat} {l0 l1 l2 l3 : Option AV} {st : List AV} {i : Int} {G : AG} {h : AH} {Q : Option AV → AG → AH → Prop} (hk : 0 ≤ i ∧ i < h 1002 0 ∧ h 1002 0 ≤ 100000) : wp d 211 376 [l0, l1, l2, l3] (.inl i :: .inr (.inr (some 1001)) :: st) G h Q = wp d 211 377 [l0, l1, l2, l3] (.inl (h 1001 i.toNat) :: st) G h Q := x_scr rfl hk
set_option maxRecDepth 100000 in
theorem X_211_377 {d : Nat} {l1 l2 l3 : Option AV} {st : List AV} {x : Nat} {G : AG} {h : AH} {Q : Option AV → AG → AH → Prop} : wp d 211 377 [some (.inr (.inr (some x))), l1, l2, l3] st G h Q = wp d 211 378 [some (.inr (.inr (some x))), l1, l2, l3] (.inr (.inr (some x)) :: st) G h Q := wp_nx rfl
set_option maxRecDepth 100000 in
theorem X_211_378 {d : Nat} {l0 l1 l2 : Option AV} {st : List AV} {x : Int} {G : AG} {h : AH} {Q : Option AV → AG → AH → Prop} : wp d 211 378 [l0, l1, l2, some (.inl x)] st G h Q = wp d 211 379 [l0, l1, l2, some (.inl x)] (.inl x :: st) G h Q := wp_nx rfl
set_option maxRecDepth 100000 in
theorem X_211_379 {d : Nat} {l0 l1 l2 l3 : Option AV} {st : List AV} {G : AG} {h : AH} {Q : Option AV → AG → AH → Prop} : wp d 211 379 [l0, l1, l2, l3] st G h Q = wp d 211 380 [l0, l1, l2, l3] (.inl 4 :: st) G h Q := wp_nx rfl
set_option maxRecDepth 100000 in
theorem X_211_380 {d : Nat} {l0 l1 l2 l3 : Option AV} {st : List AV} {x y : Int} {G : AG} {h : AH} {Q : Option AV → AG → AH → Prop} : wp d 211 380 [l0, l1, l2, l3] (.inl y :: .inl x :: st) G h Q = wp d 211 381 [l0, l1, l2, l3] (.inl (x + y) :: st) G h Q := wp_nx rfl
set_option maxRecDepth 100000 in
theorem X_211_381 {d : Nat} {l0 l1 l2 l3 : Option AV} {st : List AV} {i : Int} {G : AG} {h : AH} {Q : Option AV → AG → AH → Prop} (hk : 0 ≤ i ∧ i < h 1002 0 ∧ h 1002 0 ≤ 100000) : wp d 211 381 [l0, l1, l2, l3] (.inl i :: .inr (.inr (some 1001)) :: st) G h Q = wp d 211 382 [l0, l1, l2, l3] (.inl (h 1001 i.toNat) :: st) G h Q := x_scr rfl hk
set_option maxRecDepth 100000 in
theorem X_211_382 {d : Nat} {l1 l2 l3 : Option AV} {st : List AV} {x : Nat} {G : AG} {h : AH} {Q : Option AV → AG → AH → Prop} : wp d 211 382 [some (.inr (.inr (some x))), l1, l2, l3] st G h Q = wp d 211 383 [some (.inr (.inr (some x))), l1, l2, l3] (.inr (.inr (some x)) :: st) G h Q := wp_nx rfl
set_option maxRecDepth 100000 in
theorem X_211_383 {d : Nat} {l0 l1 l2 : Option AV} {st : List AV} {x : Int} {G : AG} {h : AH} {Q : Option AV → AG → AH → Prop} : wp d 211 383 [l0, l1, l2, some (.inl x)] st G h Q = wp d 211 384 [l0, l1, l2, some (.inl x)] (.inl x :: st) G h Q := wp_nx rfl
set_option maxRecDepth 100000 in
theorem X_211_384 {d : Nat} {l0 l1 l2 l3 : Option AV} {st : List AV} {G : AG} {h : AH} {Q : Option AV → AG → AH → Prop} : wp d 211 384 [l0, l1, l2, l3] st G h Q = wp d 211 385 [l0, l1, l2, l3] (.inl 5 :: st) G h Q := wp_nx rfl
set_option maxRecDepth 100000 in
theorem X_211_385 {d : Nat} {l0 l1 l2 l3 : Option AV} {st : List AV} {x y : Int} {G : AG} {h : AH} {Q : Option AV → AG → AH → Prop} : wp d 211 385 [l0, l1, l2, l3] (.inl y :: .inl x :: st) G h Q = wp d 211 386 [l0, l1, l2, l3] (.inl (x + y) :: st) G h Q := wp_nx rfl
set_option maxRecDepth 100000 in
theorem X_211_386 {d : Nat} {l0 l1 l2 l3 : Option AV} {st : List AV} {i : Int} {G : AG} {h : AH} {Q : Option AV → AG → AH → Prop} (hk : 0 ≤ i ∧ i < h 1002 0 ∧ h 1002 0 ≤ 100000) : wp d 211 386 [l0, l1, l2, l3] (.inl i :: .inr (.inr (some 1001)) :: st) G h Q = wp d 211 387 [l0, l1, l2, l3] (.inl (h 1001 i.toNat) :: st) G h Q := x_scr rfl hk
set_option maxRecDepth 100000 in
theorem X_211_387 {d : Nat} {l0 l1 l2 l3 : Option AV} {o : Nat} {a1 a2 a3 a4 a5 : AV} {s0 : AV} {G : AG} {h : AH} {Q : Option AV → AG → AH → Prop} (hk : (shp G o).1 = 7 ∧ (shp G o).2 = 20) : wp d 211 387 [l0, l1, l2, l3] (a5 :: a4 :: a3 :: a2 :: a1 :: .inr (.inr (some o)) :: [s0]) G h Q = call d 128 [.inr (.inr (some o)), a1, a2, a3, a4, a5] G h (fun r G2 h2 => wp d 211 390 [l0, l1, l2, l3] (pushR r [s0]) G2 h2 Q) := x_inv (virt := 3) (as := [.inr (.inr (some o)), a1, a2, a3, a4, a5]) (rest := [s0]) rfl rfl rfl (Nat.le_of_ble_eq_true rfl) (rcv_ok hk)
set_option maxRecDepth 100000 in
theorem X_211_390 {d : Nat} {l0 l1 l2 l3 : Option AV} {st : List AV} {x y : Int} {G : AG} {h : AH} {Q : Option AV → AG → AH → Prop} (hx : (((-2147483648 ≤ x ∧ x < 2147483648) ∧ (-2147483648 ≤ y ∧ y < 2147483648)) ∨ x = y)) : wp d 211 390 [l0, l1, l2, l3] (.inl y :: .inl x :: st) G h Q = if x = y then wp d 211 1337 [l0, l1, l2, l3] st G h Q else wp d 211 393 [l0, l1, l2, l3] st G h Q := x_icc (x = y) (tst_eq x y) rfl rfl hx
set_option maxRecDepth 100000 in
theorem X_211_390_t {d : Nat} {l0 l1 l2 l3 : Option AV} {st : List AV} {x y : Int} {G : AG} {h : AH} {Q : Option AV → AG → AH → Prop} (hx : (((-2147483648 ≤ x ∧ x < 2147483648) ∧ (-2147483648 ≤ y ∧ y < 2147483648)) ∨ x = y) ∧ x = y) : wp d 211 390 [l0, l1, l2, l3] (.inl y :: .inl x :: st) G h Q = wp d 211 1337 [l0, l1, l2, l3] st G h Q := x_ict (x = y) (tst_eq x y) rfl rfl hx
set_option maxRecDepth 100000 in
theorem X_211_390_f {d : Nat} {l0 l1 l2 l3 : Option AV} {st : List AV} {x y : Int} {G : AG} {h : AH} {Q : Option AV → AG → AH → Prop} (hx : (((-2147483648 ≤ x ∧ x < 2147483648) ∧ (-2147483648 ≤ y ∧ y < 2147483648)) ∨ x = y) ∧ ¬ (x = y)) : wp d 211 390 [l0, l1, l2, l3] (.inl y :: .inl x :: st) G h Q = wp d 211 393 [l0, l1, l2, l3] st G h Q := x_icf (x = y) (tst_eq x y) (tgt := 1337) rfl rfl hx
set_option maxRecDepth 100000 in
theorem X_211_393 {d : Nat} {l0 l1 l2 l3 : Option AV} {st : List AV} {G : AG} {h : AH} {Q : Option AV → AG → AH → Prop} : wp d 211 393 [l0, l1, l2, l3] st G h Q = wp d 211 394 [l0, l1, l2, l3] (.inl 0 :: st) G h Q := wp_nx rfl
set_option maxRecDepth 100000 in
theorem X_211_394 {d : Nat} {l0 l1 l2 l3 : Option AV} {x : Int} {G : AG} {h : AH} {Q : Option AV → AG → AH → Prop} (hx : x = 0 ∨ x = 1) : wp d 211 394 [l0, l1, l2, l3] [.inl x] G h Q = Q (some (.inl x)) G h := x_retZ rfl hx
set_option maxRecDepth 100000 in
theorem X_211_395 {d : Nat} {l0 l2 l3 : Option AV} {st : List AV} {x : Nat} {G : AG} {h : AH} {Q : Option AV → AG → AH → Prop} : wp d 211 395 [l0, some (.inr (.inr (some x))), l2, l3] st G h Q = wp d 211 396 [l0, some (.inr (.inr (some x))), l2, l3] (.inr (.inr (some x)) :: st) G h Q := wp_nx rfl
set_option maxRecDepth 100000 in
theorem X_211_396 {d : Nat} {l1 l2 l3 : Option AV} {st : List AV} {x : Nat} {G : AG} {h : AH} {Q : Option AV → AG → AH → Prop} : wp d 211 396 [some (.inr (.inr (some x))), l1, l2, l3] st G h Q = wp d 211 397 [some (.inr (.inr (some x))), l1, l2, l3] (.inr (.inr (some x)) :: st) G h Q := wp_nx rfl
set_option maxRecDepth 100000 in
theorem X_211_397 {d : Nat} {l0 l1 l2 : Option AV} {st : List AV} {x : Int} {G : AG} {h : AH} {Q : Option AV → AG → AH → Prop} : wp d 211 397 [l0, l1, l2, some (.inl x)] st G h Q = wp d 211 398 [l0, l1, l2, some (.inl x)] (.inl x :: st) G h Q := wp_nx rfl
set_option maxRecDepth 100000 in
theorem X_211_398 {d : Nat} {l0 l1 l2 l3 : Option AV} {st : List AV} {G : AG} {h : AH} {Q : Option AV → AG → AH → Prop} : wp d 211 398 [l0, l1, l2, l3] st G h Q = wp d 211 399 [l0, l1, l2, l3] (.inl 1 :: st) G h Q := wp_nx rfl
set_option maxRecDepth 100000 in
theorem X_211_399 {d : Nat} {l0 l1 l2 l3 : Option AV} {st : List AV} {x y : Int} {G : AG} {h : AH} {Q : Option AV → AG → AH → Prop} : wp d 211 399 [l0, l1, l2, l3] (.inl y :: .inl x :: st) G h Q = wp d 211 400 [l0, l1, l2, l3] (.inl (x + y) :: st) G h Q := wp_nx rfl
set_option maxRecDepth 100000 in
theorem X_211_400 {d : Nat} {l0 l1 l2 l3 : Option AV} {st : List AV} {i : Int} {G : AG} {h : AH} {Q : Option AV → AG → AH → Prop} (hk : 0 ≤ i ∧ i < h 1002 0 ∧ h 1002 0 ≤ 100000) : wp d 211 400 [l0, l1, l2, l3] (.inl i :: .inr (.inr (some 1001)) :: st) G h Q = wp d 211 401 [l0, l1, l2, l3] (.inl (h 1001 i.toNat) :: st) G h Q := x_scr rfl hk
set_option maxRecDepth 100000 in
theorem X_211_401 {d : Nat} {l0 l1 l2 l3 : Option AV} {o : Nat} {a1 : AV} {G : AG} {h : AH} {Q : Option AV → AG → AH → Prop} (hk : (shp G o).1 = 6 ∧ (shp G o).2 = 13) : wp d 211 401 [l0, l1, l2, l3] (a1 :: .inr (.inr (some o)) :: []) G h Q = call d 44 [.inr (.inr (some o)), a1] G h (fun r G2 h2 => wp d 211 404 [l0, l1, l2, l3] (pushR r []) G2 h2 Q) := x_inv (virt := 2) (as := [.inr (.inr (some o)), a1]) (rest := []) rfl rfl rfl (Nat.le_of_ble_eq_true rfl) (rcv_ok hk)
set_option maxRecDepth 100000 in
theorem X_211_404 {d : Nat} {l0 l1 l3 : Option AV} {st : List AV} {x : Nat} {G : AG} {h : AH} {Q : Option AV → AG → AH → Prop} : wp d 211 404 [l0, l1, some (.inr (.inr (some x))), l3] st G h Q = wp d 211 405 [l0, l1, some (.inr (.inr (some x))), l3] (.inr (.inr (some x)) :: st) G h Q := wp_nx rfl
set_option maxRecDepth 100000 in
theorem X_211_405 {d : Nat} {l1 l2 l3 : Option AV} {st : List AV} {x : Nat} {G : AG} {h : AH} {Q : Option AV → AG → AH → Prop} : wp d 211 405 [some (.inr (.inr (some x))), l1, l2, l3] st G h Q = wp d 211 406 [some (.inr (.inr (some x))), l1, l2, l3] (.inr (.inr (some x)) :: st) G h Q := wp_nx rfl
set_option maxRecDepth 100000 in
theorem X_211_406 {d : Nat} {l0 l1 l2 : Option AV} {st : List AV} {x : Int} {G : AG} {h : AH} {Q : Option AV → AG → AH → Prop} : wp d 211 406 [l0, l1, l2, some (.inl x)] st G h Q = wp d 211 407 [l0, l1, l2, some (.inl x)] (.inl x :: st) G h Q := wp_nx rfl
set_option maxRecDepth 100000 in
theorem X_211_407 {d : Nat} {l0 l1 l2 l3 : Option AV} {st : List AV} {G : AG} {h : AH} {Q : Option AV → AG → AH → Prop} : wp d 211 407 [l0, l1, l2, l3] st G h Q = wp d 211 408 [l0, l1, l2, l3] (.inl 1 :: st) G h Q := wp_nx rfl
set_option maxRecDepth 100000 in
theorem X_211_408 {d : Nat} {l0 l1 l2 l3 : Option AV} {st : List AV} {x y : Int} {G : AG} {h : AH} {Q : Option AV → AG → AH → Prop} : wp d 211 408 [l0, l1, l2, l3] (.inl y :: .inl x :: st) G h Q = wp d 211 409 [l0, l1, l2, l3] (.inl (x + y) :: st) G h Q := wp_nx rfl
set_option maxRecDepth 100000 in
theorem X_211_409 {d : Nat} {l0 l1 l2 l3 : Option AV} {st : List AV} {i : Int} {G : AG} {h : AH} {Q : Option AV → AG → AH → Prop} (hk : 0 ≤ i ∧ i < h 1002 0 ∧ h 1002 0 ≤ 100000) : wp d 211 409 [l0, l1, l2, l3] (.inl i :: .inr (.inr (some 1001)) :: st) G h Q = wp d 211 410 [l0, l1, l2, l3] (.inl (h 1001 i.toNat) :: st) G h Q := x_scr rfl hk
set_option maxRecDepth 100000 in
theorem X_211_410 {d : Nat} {l0 l1 l2 l3 : Option AV} {o : Nat} {a1 : AV} {s0 : AV} {G : AG} {h : AH} {Q : Option AV → AG → AH → Prop} (hk : (shp G o).1 = 7 ∧ (shp G o).2 = 20) : wp d 211 410 [l0, l1, l2, l3] (a1 :: .inr (.inr (some o)) :: [s0]) G h Q = call d 129 [.inr (.inr (some o)), a1] G h (fun r G2 h2 => wp d 211 413 [l0, l1, l2, l3] (pushR r [s0]) G2 h2 Q) := x_inv (virt := 3) (as := [.inr (.inr (some o)), a1]) (rest := [s0]) rfl rfl rfl (Nat.le_of_ble_eq_true rfl) (rcv_ok hk)
set_option maxRecDepth 100000 in
theorem X_211_413 {d : Nat} {l0 l1 l2 l3 : Option AV} {st : List AV} {x y : Int} {G : AG} {h : AH} {Q : Option AV → AG → AH → Prop} (hx : (((-2147483648 ≤ x ∧ x < 2147483648) ∧ (-2147483648 ≤ y ∧ y < 2147483648)) ∨ x = y)) : wp d 211 413 [l0, l1, l2, l3] (.inl y :: .inl x :: st) G h Q = if x = y then wp d 211 1337 [l0, l1, l2, l3] st G h Q else wp d 211 416 [l0, l1, l2, l3] st G h Q := x_icc (x = y) (tst_eq x y) rfl rfl hx
set_option maxRecDepth 100000 in
theorem X_211_413_t {d : Nat} {l0 l1 l2 l3 : Option AV} {st : List AV} {x y : Int} {G : AG} {h : AH} {Q : Option AV → AG → AH → Prop} (hx : (((-2147483648 ≤ x ∧ x < 2147483648) ∧ (-2147483648 ≤ y ∧ y < 2147483648)) ∨ x = y) ∧ x = y) : wp d 211 413 [l0, l1, l2, l3] (.inl y :: .inl x :: st) G h Q = wp d 211 1337 [l0, l1, l2, l3] st G h Q := x_ict (x = y) (tst_eq x y) rfl rfl hx
set_option maxRecDepth 100000 in
theorem X_211_413_f {d : Nat} {l0 l1 l2 l3 : Option AV} {st : List AV} {x y : Int} {G : AG} {h : AH} {Q : Option AV → AG → AH → Prop} (hx : (((-2147483648 ≤ x ∧ x < 2147483648) ∧ (-2147483648 ≤ y ∧ y < 2147483648)) ∨ x = y) ∧ ¬ (x = y)) : wp d 211 413 [l0, l1, l2, l3] (.inl y :: .inl x :: st) G h Q = wp d 211 416 [l0, l1, l2, l3] st G h Q := x_icf (x = y) (tst_eq x y) (tgt := 1337) rfl rfl hx
set_option maxRecDepth 100000 in
theorem X_211_416 {d : Nat} {l0 l1 l2 l3 : Option AV} {st : List AV} {G : AG} {h : AH} {Q : Option AV → AG → AH → Prop} : wp d 211 416 [l0, l1, l2, l3] st G h Q = wp d 211 417 [l0, l1, l2, l3] (.inl 0 :: st) G h Q := wp_nx rfl
set_option maxRecDepth 100000 in
theorem X_211_417 {d : Nat} {l0 l1 l2 l3 : Option AV} {x : Int} {G : AG} {h : AH} {Q : Option AV → AG → AH → Prop} (hx : x = 0 ∨ x = 1) : wp d 211 417 [l0, l1, l2, l3] [.inl x] G h Q = Q (some (.inl x)) G h := x_retZ rfl hx
set_option maxRecDepth 100000 in
theorem X_211_418 {d : Nat} {l0 l2 l3 : Option AV} {st : List AV} {x : Nat} {G : AG} {h : AH} {Q : Option AV → AG → AH → Prop} : wp d 211 418 [l0, some (.inr (.inr (some x))), l2, l3] st G h Q = wp d 211 419 [l0, some (.inr (.inr (some x))), l2, l3] (.inr (.inr (some x)) :: st) G h Q := wp_nx rfl
set_option maxRecDepth 100000 in
theorem X_211_419 {d : Nat} {l1 l2 l3 : Option AV} {st : List AV} {x : Nat} {G : AG} {h : AH} {Q : Option AV → AG → AH → Prop} : wp d 211 419 [some (.inr (.inr (some x))), l1, l2, l3] st G h Q = wp d 211 420 [some (.inr (.inr (some x))), l1, l2, l3] (.inr (.inr (some x)) :: st) G h Q := wp_nx rfl
set_option maxRecDepth 100000 in
theorem X_211_420 {d : Nat} {l0 l1 l2 : Option AV} {st : List AV} {x : Int} {G : AG} {h : AH} {Q : Option AV → AG → AH → Prop} : wp d 211 420 [l0, l1, l2, some (.inl x)] st G h Q = wp d 211 421 [l0, l1, l2, some (.inl x)] (.inl x :: st) G h Q := wp_nx rfl
set_option maxRecDepth 100000 in
theorem X_211_421 {d : Nat} {l0 l1 l2 l3 : Option AV} {st : List AV} {G : AG} {h : AH} {Q : Option AV → AG → AH → Prop} : wp d 211 421 [l0, l1, l2, l3] st G h Q = wp d 211 422 [l0, l1, l2, l3] (.inl 1 :: st) G h Q := wp_nx rfl
set_option maxRecDepth 100000 in
theorem X_211_422 {d : Nat} {l0 l1 l2 l3 : Option AV} {st : List AV} {x y : Int} {G : AG} {h : AH} {Q : Option AV → AG → AH → Prop} : wp d 211 422 [l0, l1, l2, l3] (.inl y :: .inl x :: st) G h Q = wp d 211 423 [l0, l1, l2, l3] (.inl (x + y) :: st) G h Q := wp_nx rfl
set_option maxRecDepth 100000 in
theorem X_211_423 {d : Nat} {l0 l1 l2 l3 : Option AV} {st : List AV} {i : Int} {G : AG} {h : AH} {Q : Option AV → AG → AH → Prop} (hk : 0 ≤ i ∧ i < h 1002 0 ∧ h 1002 0 ≤ 100000) : wp d 211 423 [l0, l1, l2, l3] (.inl i :: .inr (.inr (some 1001)) :: st) G h Q = wp d 211 424 [l0, l1, l2, l3] (.inl (h 1001 i.toNat) :: st) G h Q := x_scr rfl hk
set_option maxRecDepth 100000 in
theorem X_211_424 {d : Nat} {l1 l2 l3 : Option AV} {st : List AV} {x : Nat} {G : AG} {h : AH} {Q : Option AV → AG → AH → Prop} : wp d 211 424 [some (.inr (.inr (some x))), l1, l2, l3] st G h Q = wp d 211 425 [some (.inr (.inr (some x))), l1, l2, l3] (.inr (.inr (some x)) :: st) G h Q := wp_nx rfl
set_option maxRecDepth 100000 in
theorem X_211_425 {d : Nat} {l0 l1 l2 : Option AV} {st : List AV} {x : Int} {G : AG} {h : AH} {Q : Option AV → AG → AH → Prop} : wp d 211 425 [l0, l1, l2, some (.inl x)] st G h Q = wp d 211 426 [l0, l1, l2, some (.inl x)] (.inl x :: st) G h Q := wp_nx rfl
set_option maxRecDepth 100000 in
theorem X_211_426 {d : Nat} {l0 l1 l2 l3 : Option AV} {st : List AV} {G : AG} {h : AH} {Q : Option AV → AG → AH → Prop} : wp d 211 426 [l0, l1, l2, l3] st G h Q = wp d 211 427 [l0, l1, l2, l3] (.inl 2 :: st) G h Q := wp_nx rfl
set_option maxRecDepth 100000 in
theorem X_211_427 {d : Nat} {l0 l1 l2 l3 : Option AV} {st : List AV} {x y : Int} {G : AG} {h : AH} {Q : Option AV → AG → AH → Prop} : wp d 211 427 [l0, l1, l2, l3] (.inl y :: .inl x :: st) G h Q = wp d 211 428 [l0, l1, l2, l3] (.inl (x + y) :: st) G h Q := wp_nx rfl
set_option maxRecDepth 100000 in
theorem X_211_428 {d : Nat} {l0 l1 l2 l3 : Option AV} {st : List AV} {i : Int} {G : AG} {h : AH} {Q : Option AV → AG → AH → Prop} (hk : 0 ≤ i ∧ i < h 1002 0 ∧ h 1002 0 ≤ 100000) : wp d 211 428 [l0, l1, l2, l3] (.inl i :: .inr (.inr (some 1001)) :: st) G h Q = wp d 211 429 [l0, l1, l2, l3] (.inl (h 1001 i.toNat) :: st) G h Q := x_scr rfl hk
set_option maxRecDepth 100000 in
theorem X_211_429 {d : Nat} {l0 l1 l2 l3 : Option AV} {o : Nat} {a1 a2 : AV} {G : AG} {h : AH} {Q : Option AV → AG → AH → Prop} (hk : (shp G o).1 = 6 ∧ (shp G o).2 = 13) : wp d 211 429 [l0, l1, l2, l3] (a2 :: a1 :: .inr (.inr (some o)) :: []) G h Q = call d 45 [.inr (.inr (some o)), a1, a2] G h (fun r G2 h2 => wp d 211 432 [l0, l1, l2, l3] (pushR r []) G2 h2 Q) := x_inv (virt := 2) (as := [.inr (.inr (some o)), a1, a2]) (rest := []) rfl rfl rfl (Nat.le_of_ble_eq_true rfl) (rcv_ok hk)
set_option maxRecDepth 100000 in
theorem X_211_432 {d : Nat} {l0 l1 l3 : Option AV} {st : List AV} {x : Nat} {G : AG} {h : AH} {Q : Option AV → AG → AH → Prop} : wp d 211 432 [l0, l1, some (.inr (.inr (some x))), l3] st G h Q = wp d 211 433 [l0, l1, some (.inr (.inr (some x))), l3] (.inr (.inr (some x)) :: st) G h Q := wp_nx rfl
set_option maxRecDepth 100000 in
theorem X_211_433 {d : Nat} {l1 l2 l3 : Option AV} {st : List AV} {x : Nat} {G : AG} {h : AH} {Q : Option AV → AG → AH → Prop} : wp d 211 433 [some (.inr (.inr (some x))), l1, l2, l3] st G h Q = wp d 211 434 [some (.inr (.inr (some x))), l1, l2, l3] (.inr (.inr (some x)) :: st) G h Q := wp_nx rfl
set_option maxRecDepth 100000 in
theorem X_211_434 {d : Nat} {l0 l1 l2 : Option AV} {st : List AV} {x : Int} {G : AG} {h : AH} {Q : Option AV → AG → AH → Prop} : wp d 211 434 [l0, l1, l2, some (.inl x)] st G h Q = wp d 211 435 [l0, l1, l2, some (.inl x)] (.inl x :: st) G h Q := wp_nx rfl
set_option maxRecDepth 100000 in
theorem X_211_435 {d : Nat} {l0 l1 l2 l3 : Option AV} {st : List AV} {G : AG} {h : AH} {Q : Option AV → AG → AH → Prop} : wp d 211 435 [l0, l1, l2, l3] st G h Q = wp d 211 436 [l0, l1, l2, l3] (.inl 1 :: st) G h Q := wp_nx rfl
set_option maxRecDepth 100000 in
theorem X_211_436 {d : Nat} {l0 l1 l2 l3 : Option AV} {st : List AV} {x y : Int} {G : AG} {h : AH} {Q : Option AV → AG → AH → Prop} : wp d 211 436 [l0, l1, l2, l3] (.inl y :: .inl x :: st) G h Q = wp d 211 437 [l0, l1, l2, l3] (.inl (x + y) :: st) G h Q := wp_nx rfl
set_option maxRecDepth 100000 in
theorem X_211_437 {d : Nat} {l0 l1 l2 l3 : Option AV} {st : List AV} {i : Int} {G : AG} {h : AH} {Q : Option AV → AG → AH → Prop} (hk : 0 ≤ i ∧ i < h 1002 0 ∧ h 1002 0 ≤ 100000) : wp d 211 437 [l0, l1, l2, l3] (.inl i :: .inr (.inr (some 1001)) :: st) G h Q = wp d 211 438 [l0, l1, l2, l3] (.inl (h 1001 i.toNat) :: st) G h Q := x_scr rfl hk
set_option maxRecDepth 100000 in
theorem X_211_438 {d : Nat} {l1 l2 l3 : Option AV} {st : List AV} {x : Nat} {G : AG} {h : AH} {Q : Option AV → AG → AH → Prop} : wp d 211 438 [some (.inr (.inr (some x))), l1, l2, l3] st G h Q = wp d 211 439 [some (.inr (.inr (some x))), l1, l2, l3] (.inr (.inr (some x)) :: st) G h Q := wp_nx rfl
set_option maxRecDepth 100000 in
theorem X_211_439 {d : Nat} {l0 l1 l2 : Option AV} {st : List AV} {x : Int} {G : AG} {h : AH} {Q : Option AV → AG → AH → Prop} : wp d 211 439 [l0, l1, l2, some (.inl x)] st G h Q = wp d 211 440 [l0, l1, l2, some (.inl x)] (.inl x :: st) G h Q := wp_nx rfl
set_option maxRecDepth 100000 in
theorem X_211_440 {d : Nat} {l0 l1 l2 l3 : Option AV} {st : List AV} {G : AG} {h : AH} {Q : Option AV → AG → AH → Prop} : wp d 211 440 [l0, l1, l2, l3] st G h Q = wp d 211 441 [l0, l1, l2, l3] (.inl 2 :: st) G h Q := wp_nx rfl
set_option maxRecDepth 100000 in
theorem X_211_441 {d : Nat} {l0 l1 l2 l3 : Option AV} {st : List AV} {x y : Int} {G : AG} {h : AH} {Q : Option AV → AG → AH → Prop} : wp d 211 441 [l0, l1, l2, l3] (.inl y :: .inl x :: st) G h Q = wp d 211 442 [l0, l1, l2, l3] (.inl (x + y) :: st) G h Q := wp_nx rfl
set_option maxRecDepth 100000 in
theorem X_211_442 {d : Nat} {l0 l1 l2 l3 : Option AV} {st : List AV} {i : Int} {G : AG} {h : AH} {Q : Option AV → AG → AH → Prop} (hk : 0 ≤ i ∧ i < h 1002 0 ∧ h 1002 0 ≤ 100000) : wp d 211 442 [l0, l1, l2, l3] (.inl i :: .inr (.inr (some 1001)) :: st) G h Q = wp d 211 443 [l0, l1, l2, l3] (.inl (h 1001 i.toNat) :: st) G h Q := x_scr rfl hk
set_option maxRecDepth 100000 in
theorem X_211_443 {d : Nat} {l0 l1 l2 l3 : Option AV} {o : Nat} {a1 a2 : AV} {s0 : AV} {G : AG} {h : AH} {Q : Option AV → AG → AH → Prop} (hk : (shp G o).1 = 7 ∧ (shp G o).2 = 20) : wp d 211 443 [l0, l1, l2, l3] (a2 :: a1 :: .inr (.inr (some o)) :: [s0]) G h Q = call d 130 [.inr (.inr (some o)), a1, a2] G h (fun r G2 h2 => wp d 211 446 [l0, l1, l2, l3] (pushR r [s0]) G2 h2 Q) := x_inv (virt := 3) (as := [.inr (.inr (some o)), a1, a2]) (rest := [s0]) rfl rfl rfl (Nat.le_of_ble_eq_true rfl) (rcv_ok hk)
set_option maxRecDepth 100000 in
theorem X_211_446 {d : Nat} {l0 l1 l2 l3 : Option AV} {st : List AV} {x y : Int} {G : AG} {h : AH} {Q : Option AV → AG → AH → Prop} (hx : (((-2147483648 ≤ x ∧ x < 2147483648) ∧ (-2147483648 ≤ y ∧ y < 2147483648)) ∨ x = y)) : wp d 211 446 [l0, l1, l2, l3] (.inl y :: .inl x :: st) G h Q = if x = y then wp d 211 1337 [l0, l1, l2, l3] st G h Q else wp d 211 449 [l0, l1, l2, l3] st G h Q := x_icc (x = y) (tst_eq x y) rfl rfl hx
set_option maxRecDepth 100000 in
theorem X_211_446_t {d : Nat} {l0 l1 l2 l3 : Option AV} {st : List AV} {x y : Int} {G : AG} {h : AH} {Q : Option AV → AG → AH → Prop} (hx : (((-2147483648 ≤ x ∧ x < 2147483648) ∧ (-2147483648 ≤ y ∧ y < 2147483648)) ∨ x = y) ∧ x = y) : wp d 211 446 [l0, l1, l2, l3] (.inl y :: .inl x :: st) G h Q = wp d 211 1337 [l0, l1, l2, l3] st G h Q := x_ict (x = y) (tst_eq x y) rfl rfl hx
set_option maxRecDepth 100000 in
theorem X_211_446_f {d : Nat} {l0 l1 l2 l3 : Option AV} {st : List AV} {x y : Int} {G : AG} {h : AH} {Q : Option AV → AG → AH → Prop} (hx : (((-2147483648 ≤ x ∧ x < 2147483648) ∧ (-2147483648 ≤ y ∧ y < 2147483648)) ∨ x = y) ∧ ¬ (x = y)) : wp d 211 446 [l0, l1, l2, l3] (.inl y :: .inl x :: st) G h Q = wp d 211 449 [l0, l1, l2, l3] st G h Q := x_icf (x = y) (tst_eq x y) (tgt := 1337) rfl rfl hx
set_option maxRecDepth 100000 in
theorem X_211_449 {d : Nat} {l0 l1 l2 l3 : Option AV} {st : List AV} {G : AG} {h : AH} {Q : Option AV → AG → AH → Prop} : wp d 211 449 [l0, l1, l2, l3] st G h Q = wp d 211 450 [l0, l1, l2, l3] (.inl 0 :: st) G h Q := wp_nx rfl
set_option maxRecDepth 100000 in
theorem X_211_450 {d : Nat} {l0 l1 l2 l3 : Option AV} {x : Int} {G : AG} {h : AH} {Q : Option AV → AG → AH → Prop} (hx : x = 0 ∨ x = 1) : wp d 211 450 [l0, l1, l2, l3] [.inl x] G h Q = Q (some (.inl x)) G h := x_retZ rfl hx
set_option maxRecDepth 100000 in
theorem X_211_451 {d : Nat} {l0 l2 l3 : Option AV} {st : List AV} {x : Nat} {G : AG} {h : AH} {Q : Option AV → AG → AH → Prop} : wp d 211 451 [l0, some (.inr (.inr (some x))), l2, l3] st G h Q = wp d 211 452 [l0, some (.inr (.inr (some x))), l2, l3] (.inr (.inr (some x)) :: st) G h Q := wp_nx rfl
set_option maxRecDepth 100000 in
theorem X_211_452 {d : Nat} {l1 l2 l3 : Option AV} {st : List AV} {x : Nat} {G : AG} {h : AH} {Q : Option AV → AG → AH → Prop} : wp d 211 452 [some (.inr (.inr (some x))), l1, l2, l3] st G h Q = wp d 211 453 [some (.inr (.inr (some x))), l1, l2, l3] (.inr (.inr (some x)) :: st) G h Q := wp_nx rfl
set_option maxRecDepth 100000 in
theorem X_211_453 {d : Nat} {l0 l1 l2 : Option AV} {st : List AV} {x : Int} {G : AG} {h : AH} {Q : Option AV → AG → AH → Prop} : wp d 211 453 [l0, l1, l2, some (.inl x)] st G h Q = wp d 211 454 [l0, l1, l2, some (.inl x)] (.inl x :: st) G h Q := wp_nx rfl
set_option maxRecDepth 100000 in
theorem X_211_454 {d : Nat} {l0 l1 l2 l3 : Option AV} {st : List AV} {G : AG} {h : AH} {Q : Option AV → AG → AH → Prop} : wp d 211 454 [l0, l1, l2, l3] st G h Q = wp d 211 455 [l0, l1, l2, l3] (.inl 1 :: st) G h Q := wp_nx rfl
set_option maxRecDepth 100000 in
theorem X_211_455 {d : Nat} {l0 l1 l2 l3 : Option AV} {st : List AV} {x y : Int} {G : AG} {h : AH} {Q : Option AV → AG → AH → Prop} : wp d 211 455 [l0, l1, l2, l3] (.inl y :: .inl x :: st) G h Q = wp d 211 456 [l0, l1, l2, l3] (.inl (x + y) :: st) G h Q := wp_nx rfl
set_option maxRecDepth 100000 in
theorem X_211_456 {d : Nat} {l0 l1 l2 l3 : Option AV} {st : List AV} {i : Int} {G : AG} {h : AH} {Q : Option AV → AG → AH → Prop} (hk : 0 ≤ i ∧ i < h 1002 0 ∧ h 1002 0 ≤ 100000) : wp d 211 456 [l0, l1, l2, l3] (.inl i :: .inr (.inr (some 1001)) :: st) G h Q = wp d 211 457 [l0, l1, l2, l3] (.inl (h 1001 i.toNat) :: st) G h Q := x_scr rfl hk
set_option maxRecDepth 100000 in
theorem X_211_457 {d : Nat} {l1 l2 l3 : Option AV} {st : List AV} {x : Nat} {G : AG} {h : AH} {Q : Option AV → AG → AH → Prop} : wp d 211 457 [some (.inr (.inr (some x))), l1, l2, l3] st G h Q = wp d 211 458 [some (.inr (.inr (some x))), l1, l2, l3] (.inr (.inr (some x)) :: st) G h Q := wp_nx rfl
set_option maxRecDepth 100000 in
theorem X_211_458 {d : Nat} {l0 l1 l2 : Option AV} {st : List AV} {x : Int} {G : AG} {h : AH} {Q : Option AV → AG → AH → Prop} : wp d 211 458 [l0, l1, l2, some (.inl x)] st G h Q = wp d 211 459 [l0, l1, l2, some (.inl x)] (.inl x :: st) G h Q := wp_nx rfl
set_option maxRecDepth 100000 in
theorem X_211_459 {d : Nat} {l0 l1 l2 l3 : Option AV} {st : List AV} {G : AG} {h : AH} {Q : Option AV → AG → AH → Prop} : wp d 211 459 [l0, l1, l2, l3] st G h Q = wp d 211 460 [l0, l1, l2, l3] (.inl 2 :: st) G h Q := wp_nx rfl
set_option maxRecDepth 100000 in
theorem X_211_460 {d : Nat} {l0 l1 l2 l3 : Option AV} {st : List AV} {x y : Int} {G : AG} {h : AH} {Q : Option AV → AG → AH → Prop} : wp d 211 460 [l0, l1, l2, l3] (.inl y :: .inl x :: st) G h Q = wp d 211 461 [l0, l1, l2, l3] (.inl (x + y) :: st) G h Q := wp_nx rfl
set_option maxRecDepth 100000 in
theorem X_211_461 {d : Nat} {l0 l1 l2 l3 : Option AV} {st : List AV} {i : Int} {G : AG} {h : AH} {Q : Option AV → AG → AH → Prop} (hk : 0 ≤ i ∧ i < h 1002 0 ∧ h 1002 0 ≤ 100000) : wp d 211 461 [l0, l1, l2, l3] (.inl i :: .inr (.inr (some 1001)) :: st) G h Q = wp d 211 462 [l0, l1, l2, l3] (.inl (h 1001 i.toNat) :: st) G h Q := x_scr rfl hk
set_option maxRecDepth 100000 in
theorem X_211_462 {d : Nat} {l1 l2 l3 : Option AV} {st : List AV} {x : Nat} {G : AG} {h : AH} {Q : Option AV → AG → AH → Prop} : wp d 211 462 [some (.inr (.inr (some x))), l1, l2, l3] st G h Q = wp d 211 463 [some (.inr (.inr (some x))), l1, l2, l3] (.inr (.inr (some x)) :: st) G h Q := wp_nx rfl
set_option maxRecDepth 100000 in
theorem X_211_463 {d : Nat} {l0 l1 l2 : Option AV} {st : List AV} {x : Int} {G : AG} {h : AH} {Q : Option AV → AG → AH → Prop} : wp d 211 463 [l0, l1, l2, some (.inl x)] st G h Q = wp d 211 464 [l0, l1, l2, some (.inl x)] (.inl x :: st) G h Q := wp_nx rfl
set_option maxRecDepth 100000 in
theorem X_211_464 {d : Nat} {l0 l1 l2 l3 : Option AV} {st : List AV} {G : AG} {h : AH} {Q : Option AV → AG → AH → Prop} : wp d 211 464 [l0, l1, l2, l3] st G h Q = wp d 211 465 [l0, l1, l2, l3] (.inl 3 :: st) G h Q := wp_nx rfl
set_option maxRecDepth 100000 in
theorem X_211_465 {d : Nat} {l0 l1 l2 l3 : Option AV} {st : List AV} {x y : Int} {G : AG} {h : AH} {Q : Option AV → AG → AH → Prop} : wp d 211 465 [l0, l1, l2, l3] (.inl y :: .inl x :: st) G h Q = wp d 211 466 [l0, l1, l2, l3] (.inl (x + y) :: st) G h Q := wp_nx rfl
set_option maxRecDepth 100000 in
theorem X_211_466 {d : Nat} {l0 l1 l2 l3 : Option AV} {st : List AV} {i : Int} {G : AG} {h : AH} {Q : Option AV → AG → AH → Prop} (hk : 0 ≤ i ∧ i < h 1002 0 ∧ h 1002 0 ≤ 100000) : wp d 211 466 [l0, l1, l2, l3] (.inl i :: .inr (.inr (some 1001)) :: st) G h Q = wp d 211 467 [l0, l1, l2, l3] (.inl (h 1001 i.toNat) :: st) G h Q := x_scr rfl hk
set_option maxRecDepth 100000 in
theorem X_211_467 {d : Nat} {l0 l1 l2 l3 : Option AV} {o : Nat} {a1 a2 a3 : AV} {G : AG} {h : AH} {Q : Option AV → AG → AH → Prop} (hk : (shp G o).1 = 6 ∧ (shp G o).2 = 13) : wp d 211 467 [l0, l1, l2, l3] (a3 :: a2 :: a1 :: .inr (.inr (some o)) :: []) G h Q = call d 46 [.inr (.inr (some o)), a1, a2, a3] G h (fun r G2 h2 => wp d 211 470 [l0, l1, l2, l3] (pushR r []) G2 h2 Q) := x_inv (virt := 2) (as := [.inr (.inr (some o)), a1, a2, a3]) (rest := []) rfl rfl rfl (Nat.le_of_ble_eq_true rfl) (rcv_ok hk)
set_option maxRecDepth 100000 in
theorem X_211_470 {d : Nat} {l0 l1 l3 : Option AV} {st : List AV} {x : Nat} {G : AG} {h : AH} {Q : Option AV → AG → AH → Prop} : wp d 211 470 [l0, l1, some (.inr (.inr (some x))), l3] st G h Q = wp d 211 471 [l0, l1, some (.inr (.inr (some x))), l3] (.inr (.inr (some x)) :: st) G h Q := wp_nx rfl
set_option maxRecDepth 100000 in
theorem X_211_471 {d : Nat} {l1 l2 l3 : Option AV} {st : List AV} {x : Nat} {G : AG} {h : AH} {Q : Option AV → AG → AH → Prop} : wp d 211 471 [some (.inr (.inr (some x))), l1, l2, l3] st G h Q = wp d 211 472 [some (.inr (.inr (some x))), l1, l2, l3] (.inr (.inr (some x)) :: st) G h Q := wp_nx rfl
set_option maxRecDepth 100000 in
theorem X_211_472 {d : Nat} {l0 l1 l2 : Option AV} {st : List AV} {x : Int} {G : AG} {h : AH} {Q : Option AV → AG → AH → Prop} : wp d 211 472 [l0, l1, l2, some (.inl x)] st G h Q = wp d 211 473 [l0, l1, l2, some (.inl x)] (.inl x :: st) G h Q := wp_nx rfl
set_option maxRecDepth 100000 in
theorem X_211_473 {d : Nat} {l0 l1 l2 l3 : Option AV} {st : List AV} {G : AG} {h : AH} {Q : Option AV → AG → AH → Prop} : wp d 211 473 [l0, l1, l2, l3] st G h Q = wp d 211 474 [l0, l1, l2, l3] (.inl 1 :: st) G h Q := wp_nx rfl
set_option maxRecDepth 100000 in
theorem X_211_474 {d : Nat} {l0 l1 l2 l3 : Option AV} {st : List AV} {x y : Int} {G : AG} {h : AH} {Q : Option AV → AG → AH → Prop} : wp d 211 474 [l0, l1, l2, l3] (.inl y :: .inl x :: st) G h Q = wp d 211 475 [l0, l1, l2, l3] (.inl (x + y) :: st) G h Q := wp_nx rfl
set_option maxRecDepth 100000 in
theorem X_211_475 {d : Nat} {l0 l1 l2 l3 : Option AV} {st : List AV} {i : Int} {G : AG} {h : AH} {Q : Option AV → AG → AH → Prop} (hk : 0 ≤ i ∧ i < h 1002 0 ∧ h 1002 0 ≤ 100000) : wp d 211 475 [l0, l1, l2, l3] (.inl i :: .inr (.inr (some 1001)) :: st) G h Q = wp d 211 476 [l0, l1, l2, l3] (.inl (h 1001 i.toNat) :: st) G h Q := x_scr rfl hk
set_option maxRecDepth 100000 in
theorem X_211_476 {d : Nat} {l1 l2 l3 : Option AV} {st : List AV} {x : Nat} {G : AG} {h : AH} {Q : Option AV → AG → AH → Prop} : wp d 211 476 [some (.inr (.inr (some x))), l1, l2, l3] st G h Q = wp d 211 477 [some (.inr (.inr (some x))), l1, l2, l3] (.inr (.inr (some x)) :: st) G h Q := wp_nx rfl
set_option maxRecDepth 100000 in
theorem X_211_477 {d : Nat} {l0 l1 l2 : Option AV} {st : List AV} {x : Int} {G : AG} {h : AH} {Q : Option AV → AG → AH → Prop} : wp d 211 477 [l0, l1, l2, some (.inl x)] st G h Q = wp d 211 478 [l0, l1, l2, some (.inl x)] (.inl x :: st) G h Q := wp_nx rfl
set_option maxRecDepth 100000 in
theorem X_211_478 {d : Nat} {l0 l1 l2 l3 : Option AV} {st : List AV} {G : AG} {h : AH} {Q : Option AV → AG → AH → Prop} : wp d 211 478 [l0, l1, l2, l3] st G h Q = wp d 211 479 [l0, l1, l2, l3] (.inl 2 :: st) G h Q := wp_nx rfl
set_option maxRecDepth 100000 in
theorem X_211_479 {d : Nat} {l0 l1 l2 l3 : Option AV} {st : List AV} {x y : Int} {G : AG} {h : AH} {Q : Option AV → AG → AH → Prop} : wp d 211 479 [l0, l1, l2, l3] (.inl y :: .inl x :: st) G h Q = wp d 211 480 [l0, l1, l2, l3] (.inl (x + y) :: st) G h Q := wp_nx rfl
set_option maxRecDepth 100000 in
theorem X_211_480 {d : Nat} {l0 l1 l2 l3 : Option AV} {st : List AV} {i : Int} {G : AG} {h : AH} {Q : Option AV → AG → AH → Prop} (hk : 0 ≤ i ∧ i < h 1002 0 ∧ h 1002 0 ≤ 100000) : wp d 211 480 [l0, l1, l2, l3] (.inl i :: .inr (.inr (some 1001)) :: st) G h Q = wp d 211 481 [l0, l1, l2, l3] (.inl (h 1001 i.toNat) :: st) G h Q := x_scr rfl hk
set_option maxRecDepth 100000 in
theorem X_211_481 {d : Nat} {l1 l2 l3 : Option AV} {st : List AV} {x : Nat} {G : AG} {h : AH} {Q : Option AV → AG → AH → Prop} : wp d 211 481 [some (.inr (.inr (some x))), l1, l2, l3] st G h Q = wp d 211 482 [some (.inr (.inr (some x))), l1, l2, l3] (.inr (.inr (some x)) :: st) G h Q := wp_nx rfl
set_option maxRecDepth 100000 in
theorem X_211_482 {d : Nat} {l0 l1 l2 : Option AV} {st : List AV} {x : Int} {G : AG} {h : AH} {Q : Option AV → AG → AH → Prop} : wp d 211 482 [l0, l1, l2, some (.inl x)] st G h Q = wp d 211 483 [l0, l1, l2, some (.inl x)] (.inl x :: st) G h Q := wp_nx rfl
set_option maxRecDepth 100000 in
theorem X_211_483 {d : Nat} {l0 l1 l2 l3 : Option AV} {st : List AV} {G : AG} {h : AH} {Q : Option AV → AG → AH → Prop} : wp d 211 483 [l0, l1, l2, l3] st G h Q = wp d 211 484 [l0, l1, l2, l3] (.inl 3 :: st) G h Q := wp_nx rfl
set_option maxRecDepth 100000 in
theorem X_211_484 {d : Nat} {l0 l1 l2 l3 : Option AV} {st : List AV} {x y : Int} {G : AG} {h : AH} {Q : Option AV → AG → AH → Prop} : wp d 211 484 [l0, l1, l2, l3] (.inl y :: .inl x :: st) G h Q = wp d 211 485 [l0, l1, l2, l3] (.inl (x + y) :: st) G h Q := wp_nx rfl
set_option maxRecDepth 100000 in
theorem X_211_485 {d : Nat} {l0 l1 l2 l3 : Option AV} {st : List AV} {i : Int} {G : AG} {h : AH} {Q : Option AV → AG → AH → Prop} (hk : 0 ≤ i ∧ i < h 1002 0 ∧ h 1002 0 ≤ 100000) : wp d 211 485 [l0, l1, l2, l3] (.inl i :: .inr (.inr (some 1001)) :: st) G h Q = wp d 211 486 [l0, l1, l2, l3] (.inl (h 1001 i.toNat) :: st) G h Q := x_scr rfl hk
set_option maxRecDepth 100000 in
theorem X_211_486 {d : Nat} {l0 l1 l2 l3 : Option AV} {o : Nat} {a1 a2 a3 : AV} {s0 : AV} {G : AG} {h : AH} {Q : Option AV → AG → AH → Prop} (hk : (shp G o).1 = 7 ∧ (shp G o).2 = 20) : wp d 211 486 [l0, l1, l2, l3] (a3 :: a2 :: a1 :: .inr (.inr (some o)) :: [s0]) G h Q = call d 131 [.inr (.inr (some o)), a1, a2, a3] G h (fun r G2 h2 => wp d 211 489 [l0, l1, l2, l3] (pushR r [s0]) G2 h2 Q) := x_inv (virt := 3) (as := [.inr (.inr (some o)), a1, a2, a3]) (rest := [s0]) rfl rfl rfl (Nat.le_of_ble_eq_true rfl) (rcv_ok hk)
set_option maxRecDepth 100000 in
theorem X_211_489 {d : Nat} {l0 l1 l2 l3 : Option AV} {st : List AV} {x y : Int} {G : AG} {h : AH} {Q : Option AV → AG → AH → Prop} (hx : (((-2147483648 ≤ x ∧ x < 2147483648) ∧ (-2147483648 ≤ y ∧ y < 2147483648)) ∨ x = y)) : wp d 211 489 [l0, l1, l2, l3] (.inl y :: .inl x :: st) G h Q = if x = y then wp d 211 1337 [l0, l1, l2, l3] st G h Q else wp d 211 492 [l0, l1, l2, l3] st G h Q := x_icc (x = y) (tst_eq x y) rfl rfl hx
set_option maxRecDepth 100000 in
theorem X_211_489_t {d : Nat} {l0 l1 l2 l3 : Option AV} {st : List AV} {x y : Int} {G : AG} {h : AH} {Q : Option AV → AG → AH → Prop} (hx : (((-2147483648 ≤ x ∧ x < 2147483648) ∧ (-2147483648 ≤ y ∧ y < 2147483648)) ∨ x = y) ∧ x = y) : wp d 211 489 [l0, l1, l2, l3] (.inl y :: .inl x :: st) G h Q = wp d 211 1337 [l0, l1, l2, l3] st G h Q := x_ict (x = y) (tst_eq x y) rfl rfl hx
set_option maxRecDepth 100000 in
theorem X_211_489_f {d : Nat} {l0 l1 l2 l3 : Option AV} {st : List AV} {x y : Int} {G : AG} {h : AH} {Q : Option AV → AG → AH → Prop} (hx : (((-2147483648 ≤ x ∧ x < 2147483648) ∧ (-2147483648 ≤ y ∧ y < 2147483648)) ∨ x = y) ∧ ¬ (x = y)) : wp d 211 489 [l0, l1, l2, l3] (.inl y :: .inl x :: st) G h Q = wp d 211 492 [l0, l1, l2, l3] st G h Q := x_icf (x = y) (tst_eq x y) (tgt := 1337) rfl rfl hx
set_option maxRecDepth 100000 in
theorem X_211_492 {d : Nat} {l0 l1 l2 l3 : Option AV} {st : List AV} {G : AG} {h : AH} {Q : Option AV → AG → AH → Prop} : wp d 211 492 [l0, l1, l2, l3] st G h Q = wp d 211 493 [l0, l1, l2, l3] (.inl 0 :: st) G h Q := wp_nx rfl
set_option maxRecDepth 100000 in
theorem X_211_493 {d : Nat} {l0 l1 l2 l3 : Option AV} {x : Int} {G : AG} {h : AH} {Q : Option AV → AG → AH → Prop} (hx : x = 0 ∨ x = 1) : wp d 211 493 [l0, l1, l2, l3] [.inl x] G h Q = Q (some (.inl x)) G h := x_retZ rfl hx
set_option maxRecDepth 100000 in
theorem X_211_494 {d : Nat} {l0 l2 l3 : Option AV} {st : List AV} {x : Nat} {G : AG} {h : AH} {Q : Option AV → AG → AH → Prop} : wp d 211 494 [l0, some (.inr (.inr (some x))), l2, l3] st G h Q = wp d 211 495 [l0, some (.inr (.inr (some x))), l2, l3] (.inr (.inr (some x)) :: st) G h Q := wp_nx rfl
set_option maxRecDepth 100000 in
theorem X_211_495 {d : Nat} {l1 l2 l3 : Option AV} {st : List AV} {x : Nat} {G : AG} {h : AH} {Q : Option AV → AG → AH → Prop} : wp d 211 495 [some (.inr (.inr (some x))), l1, l2, l3] st G h Q = wp d 211 496 [some (.inr (.inr (some x))), l1, l2, l3] (.inr (.inr (some x)) :: st) G h Q := wp_nx rfl
set_option maxRecDepth 100000 in
theorem X_211_496 {d : Nat} {l0 l1 l2 : Option AV} {st : List AV} {x : Int} {G : AG} {h : AH} {Q : Option AV → AG → AH → Prop} : wp d 211 496 [l0, l1, l2, some (.inl x)] st G h Q = wp d 211 497 [l0, l1, l2, some (.inl x)] (.inl x :: st) G h Q := wp_nx rfl
set_option maxRecDepth 100000 in
theorem X_211_497 {d : Nat} {l0 l1 l2 l3 : Option AV} {st : List AV} {G : AG} {h : AH} {Q : Option AV → AG → AH → Prop} : wp d 211 497 [l0, l1, l2, l3] st G h Q = wp d 211 498 [l0, l1, l2, l3] (.inl 1 :: st) G h Q := wp_nx rfl
set_option maxRecDepth 100000 in
theorem X_211_498 {d : Nat} {l0 l1 l2 l3 : Option AV} {st : List AV} {x y : Int} {G : AG} {h : AH} {Q : Option AV → AG → AH → Prop} : wp d 211 498 [l0, l1, l2, l3] (.inl y :: .inl x :: st) G h Q = wp d 211 499 [l0, l1, l2, l3] (.inl (x + y) :: st) G h Q := wp_nx rfl
set_option maxRecDepth 100000 in
theorem X_211_499 {d : Nat} {l0 l1 l2 l3 : Option AV} {st : List AV} {i : Int} {G : AG} {h : AH} {Q : Option AV → AG → AH → Prop} (hk : 0 ≤ i ∧ i < h 1002 0 ∧ h 1002 0 ≤ 100000) : wp d 211 499 [l0, l1, l2, l3] (.inl i :: .inr (.inr (some 1001)) :: st) G h Q = wp d 211 500 [l0, l1, l2, l3] (.inl (h 1001 i.toNat) :: st) G h Q := x_scr rfl hk
set_option maxRecDepth 100000 in
theorem X_211_500 {d : Nat} {l0 l1 l2 l3 : Option AV} {o : Nat} {a1 : AV} {G : AG} {h : AH} {Q : Option AV → AG → AH → Prop} (hk : (shp G o).1 = 6 ∧ (shp G o).2 = 13) : wp d 211 500 [l0, l1, l2, l3] (a1 :: .inr (.inr (some o)) :: []) G h Q = call d 47 [.inr (.inr (some o)), a1] G h (fun r G2 h2 => wp d 211 503 [l0, l1, l2, l3] (pushR r []) G2 h2 Q) := x_inv (virt := 2) (as := [.inr (.inr (some o)), a1]) (rest := []) rfl rfl rfl (Nat.le_of_ble_eq_true rfl) (rcv_ok hk)
set_option maxRecDepth 100000 in
theorem X_211_503 {d : Nat} {l0 l1 l3 : Option AV} {st : List AV} {x : Nat} {G : AG} {h : AH} {Q : Option AV → AG → AH → Prop} : wp d 211 503 [l0, l1, some (.inr (.inr (some x))), l3] st G h Q = wp d 211 504 [l0, l1, some (.inr (.inr (some x))), l3] (.inr (.inr (some x)) :: st) G h Q := wp_nx rfl
set_option maxRecDepth 100000 in
theorem X_211_504 {d : Nat} {l1 l2 l3 : Option AV} {st : List AV} {x : Nat} {G : AG} {h : AH} {Q : Option AV → AG → AH → Prop} : wp d 211 504 [some (.inr (.inr (some x))), l1, l2, l3] st G h Q = wp d 211 505 [some (.inr (.inr (some x))), l1, l2, l3] (.inr (.inr (some x)) :: st) G h Q := wp_nx rfl
set_option maxRecDepth 100000 in
theorem X_211_505 {d : Nat} {l0 l1 l2 : Option AV} {st : List AV} {x : Int} {G : AG} {h : AH} {Q : Option AV → AG → AH → Prop} : wp d 211 505 [l0, l1, l2, some (.inl x)] st G h Q = wp d 211 506 [l0, l1, l2, some (.inl x)] (.inl x :: st) G h Q := wp_nx rfl
set_option maxRecDepth 100000 in
theorem X_211_506 {d : Nat} {l0 l1 l2 l3 : Option AV} {st : List AV} {G : AG} {h : AH} {Q : Option AV → AG → AH → Prop} : wp d 211 506 [l0, l1, l2, l3] st G h Q = wp d 211 507 [l0, l1, l2, l3] (.inl 1 :: st) G h Q := wp_nx rfl
set_option maxRecDepth 100000 in
theorem X_211_507 {d : Nat} {l0 l1 l2 l3 : Option AV} {st : List AV} {x y : Int} {G : AG} {h : AH} {Q : Option AV → AG → AH → Prop} : wp d 211 507 [l0, l1, l2, l3] (.inl y :: .inl x :: st) G h Q = wp d 211 508 [l0, l1, l2, l3] (.inl (x + y) :: st) G h Q := wp_nx rfl
set_option maxRecDepth 100000 in
theorem X_211_508 {d : Nat} {l0 l1 l2 l3 : Option AV} {st : List AV} {i : Int} {G : AG} {h : AH} {Q : Option AV → AG → AH → Prop} (hk : 0 ≤ i ∧ i < h 1002 0 ∧ h 1002 0 ≤ 100000) : wp d 211 508 [l0, l1, l2, l3] (.inl i :: .inr (.inr (some 1001)) :: st) G h Q = wp d 211 509 [l0, l1, l2, l3] (.inl (h 1001 i.toNat) :: st) G h Q := x_scr rfl hk
set_option maxRecDepth 100000 in
theorem X_211_509 {d : Nat} {l0 l1 l2 l3 : Option AV} {o : Nat} {a1 : AV} {s0 : AV} {G : AG} {h : AH} {Q : Option AV → AG → AH → Prop} (hk : (shp G o).1 = 7 ∧ (shp G o).2 = 20) : wp d 211 509 [l0, l1, l2, l3] (a1 :: .inr (.inr (some o)) :: [s0]) G h Q = call d 135 [.inr (.inr (some o)), a1] G h (fun r G2 h2 => wp d 211 512 [l0, l1, l2, l3] (pushR r [s0]) G2 h2 Q) := x_inv (virt := 3) (as := [.inr (.inr (some o)), a1]) (rest := [s0]) rfl rfl rfl (Nat.le_of_ble_eq_true rfl) (rcv_ok hk)
set_option maxRecDepth 100000 in
theorem X_211_512 {d : Nat} {l0 l1 l2 l3 : Option AV} {st : List AV} {x y : Int} {G : AG} {h : AH} {Q : Option AV → AG → AH → Prop} (hx : (((-2147483648 ≤ x ∧ x < 2147483648) ∧ (-2147483648 ≤ y ∧ y < 2147483648)) ∨ x = y)) : wp d 211 512 [l0, l1, l2, l3] (.inl y :: .inl x :: st) G h Q = if x = y then wp d 211 1337 [l0, l1, l2, l3] st G h Q else wp d 211 515 [l0, l1, l2, l3] st G h Q := x_icc (x = y) (tst_eq x y) rfl rfl hx
set_option maxRecDepth 100000 in
theorem X_211_512_t {d : Nat} {l0 l1 l2 l3 : Option AV} {st : List AV} {x y : Int} {G : AG} {h : AH} {Q : Option AV → AG → AH → Prop} (hx : (((-2147483648 ≤ x ∧ x < 2147483648) ∧ (-2147483648 ≤ y ∧ y < 2147483648)) ∨ x = y) ∧ x = y) : wp d 211 512 [l0, l1, l2, l3] (.inl y :: .inl x :: st) G h Q = wp d 211 1337 [l0, l1, l2, l3] st G h Q := x_ict (x = y) (tst_eq x y) rfl rfl hx
set_option maxRecDepth 100000 in
theorem X_211_512_f {d : Nat} {l0 l1 l2 l3 : Option AV} {st : List AV} {x y : Int} {G : AG} {h : AH} {Q : Option AV → AG → AH → Prop} (hx : (((-2147483648 ≤ x ∧ x < 2147483648) ∧ (-2147483648 ≤ y ∧ y < 2147483648)) ∨ x = y) ∧ ¬ (x = y)) : wp d 211 512 [l0, l1, l2, l3] (.inl y :: .inl x :: st) G h Q = wp d 211 515 [l0, l1, l2, l3] st G h Q := x_icf (x = y) (tst_eq x y) (tgt := 1337) rfl rfl hx
set_option maxRecDepth 100000 in
theorem X_211_515 {d : Nat} {l0 l1 l2 l3 : Option AV} {st : List AV} {G : AG} {h : AH} {Q : Option AV → AG → AH → Prop} : wp d 211 515 [l0, l1, l2, l3] st G h Q = wp d 211 516 [l0, l1, l2, l3] (.inl 0 :: st) G h Q := wp_nx rfl
set_option maxRecDepth 100000 in
theorem X_211_516 {d : Nat} {l0 l1 l2 l3 : Option AV} {x : Int} {G : AG} {h : AH} {Q : Option AV → AG → AH → Prop} (hx : x = 0 ∨ x = 1) : wp d 211 516 [l0, l1, l2, l3] [.inl x] G h Q = Q (some (.inl x)) G h := x_retZ rfl hx
set_option maxRecDepth 100000 in
theorem X_211_517 {d : Nat} {l0 l2 l3 : Option AV} {st : List AV} {x : Nat} {G : AG} {h : AH} {Q : Option AV → AG → AH → Prop} : wp d 211 517 [l0, some (.inr (.inr (some x))), l2, l3] st G h Q = wp d 211 518 [l0, some (.inr (.inr (some x))), l2, l3] (.inr (.inr (some x)) :: st) G h Q := wp_nx rfl
set_option maxRecDepth 100000 in
theorem X_211_518 {d : Nat} {l1 l2 l3 : Option AV} {st : List AV} {x : Nat} {G : AG} {h : AH} {Q : Option AV → AG → AH → Prop} : wp d 211 518 [some (.inr (.inr (some x))), l1, l2, l3] st G h Q = wp d 211 519 [some (.inr (.inr (some x))), l1, l2, l3] (.inr (.inr (some x)) :: st) G h Q := wp_nx rfl
set_option maxRecDepth 100000 in
theorem X_211_519 {d : Nat} {l0 l1 l2 : Option AV} {st : List AV} {x : Int} {G : AG} {h : AH} {Q : Option AV → AG → AH → Prop} : wp d 211 519 [l0, l1, l2, some (.inl x)] st G h Q = wp d 211 520 [l0, l1, l2, some (.inl x)] (.inl x :: st) G h Q := wp_nx rfl
set_option maxRecDepth 100000 in
theorem X_211_520 {d : Nat} {l0 l1 l2 l3 : Option AV} {st : List AV} {G : AG} {h : AH} {Q : Option AV → AG → AH → Prop} : wp d 211 520 [l0, l1, l2, l3] st G h Q = wp d 211 521 [l0, l1, l2, l3] (.inl 1 :: st) G h Q := wp_nx rfl
set_option maxRecDepth 100000 in
theorem X_211_521 {d : Nat} {l0 l1 l2 l3 : Option AV} {st : List AV} {x y : Int} {G : AG} {h : AH} {Q : Option AV → AG → AH → Prop} : wp d 211 521 [l0, l1, l2, l3] (.inl y :: .inl x :: st) G h Q = wp d 211 522 [l0, l1, l2, l3] (.inl (x + y) :: st) G h Q := wp_nx rfl
set_option maxRecDepth 100000 in
theorem X_211_522 {d : Nat} {l0 l1 l2 l3 : Option AV} {st : List AV} {i : Int} {G : AG} {h : AH} {Q : Option AV → AG → AH → Prop} (hk : 0 ≤ i ∧ i < h 1002 0 ∧ h 1002 0 ≤ 100000) : wp d 211 522 [l0, l1, l2, l3] (.inl i :: .inr (.inr (some 1001)) :: st) G h Q = wp d 211 523 [l0, l1, l2, l3] (.inl (h 1001 i.toNat) :: st) G h Q := x_scr rfl hk
set_option maxRecDepth 100000 in
theorem X_211_523 {d : Nat} {l0 l1 l2 l3 : Option AV} {o : Nat} {a1 : AV} {G : AG} {h : AH} {Q : Option AV → AG → AH → Prop} (hk : (shp G o).1 = 6 ∧ (shp G o).2 = 13) : wp d 211 523 [l0, l1, l2, l3] (a1 :: .inr (.inr (some o)) :: []) G h Q = call d 48 [.inr (.inr (some o)), a1] G h (fun r G2 h2 => wp d 211 526 [l0, l1, l2, l3] (pushR r []) G2 h2 Q) := x_inv (virt := 2) (as := [.inr (.inr (some o)), a1]) (rest := []) rfl rfl rfl (Nat.le_of_ble_eq_true rfl) (rcv_ok hk)
set_option maxRecDepth 100000 in
theorem X_211_526 {d : Nat} {l0 l1 l3 : Option AV} {st : List AV} {x : Nat} {G : AG} {h : AH} {Q : Option AV → AG → AH → Prop} : wp d 211 526 [l0, l1, some (.inr (.inr (some x))), l3] st G h Q = wp d 211 527 [l0, l1, some (.inr (.inr (some x))), l3] (.inr (.inr (some x)) :: st) G h Q := wp_nx rfl
set_option maxRecDepth 100000 in
theorem X_211_527 {d : Nat} {l1 l2 l3 : Option AV} {st : List AV} {x : Nat} {G : AG} {h : AH} {Q : Option AV → AG → AH → Prop} : wp d 211 527 [some (.inr (.inr (some x))), l1, l2, l3] st G h Q = wp d 211 528 [some (.inr (.inr (some x))), l1, l2, l3] (.inr (.inr (some x)) :: st) G h Q := wp_nx rfl
set_option maxRecDepth 100000 in
theorem X_211_528 {d : Nat} {l0 l1 l2 : Option AV} {st : List AV} {x : Int} {G : AG} {h : AH} {Q : Option AV → AG → AH → Prop} : wp d 211 528 [l0, l1, l2, some (.inl x)] st G h Q = wp d 211 529 [l0, l1, l2, some (.inl x)] (.inl x :: st) G h Q := wp_nx rfl
set_option maxRecDepth 100000 in
theorem X_211_529 {d : Nat} {l0 l1 l2 l3 : Option AV} {st : List AV} {G : AG} {h : AH} {Q : Option AV → AG → AH → Prop} : wp d 211 529 [l0, l1, l2, l3] st G h Q = wp d 211 530 [l0, l1, l2, l3] (.inl 1 :: st) G h Q := wp_nx rfl
set_option maxRecDepth 100000 in
theorem X_211_530 {d : Nat} {l0 l1 l2 l3 : Option AV} {st : List AV} {x y : Int} {G : AG} {h : AH} {Q : Option AV → AG → AH → Prop} : wp d 211 530 [l0, l1, l2, l3] (.inl y :: .inl x :: st) G h Q = wp d 211 531 [l0, l1, l2, l3] (.inl (x + y) :: st) G h Q := wp_nx rfl
set_option maxRecDepth 100000 in
theorem X_211_531 {d : Nat} {l0 l1 l2 l3 : Option AV} {st : List AV} {i : Int} {G : AG} {h : AH} {Q : Option AV → AG → AH → Prop} (hk : 0 ≤ i ∧ i < h 1002 0 ∧ h 1002 0 ≤ 100000) : wp d 211 531 [l0, l1, l2, l3] (.inl i :: .inr (.inr (some 1001)) :: st) G h Q = wp d 211 532 [l0, l1, l2, l3] (.inl (h 1001 i.toNat) :: st) G h Q := x_scr rfl hk
set_option maxRecDepth 100000 in
theorem X_211_532 {d : Nat} {l0 l1 l2 l3 : Option AV} {o : Nat} {a1 : AV} {s0 : AV} {G : AG} {h : AH} {Q : Option AV → AG → AH → Prop} (hk : (shp G o).1 = 7 ∧ (shp G o).2 = 20) : wp d 211 532 [l0, l1, l2, l3] (a1 :: .inr (.inr (some o)) :: [s0]) G h Q = call d 136 [.inr (.inr (some o)), a1] G h (fun r G2 h2 => wp d 211 535 [l0, l1, l2, l3] (pushR r [s0]) G2 h2 Q) := x_inv (virt := 3) (as := [.inr (.inr (some o)), a1]) (rest := [s0]) rfl rfl rfl (Nat.le_of_ble_eq_true rfl) (rcv_ok hk)
set_option maxRecDepth 100000 in
theorem X_211_535 {d : Nat} {l0 l1 l2 l3 : Option AV} {st : List AV} {x y : Int} {G : AG} {h : AH} {Q : Option AV → AG → AH → Prop} (hx : (((-2147483648 ≤ x ∧ x < 2147483648) ∧ (-2147483648 ≤ y ∧ y < 2147483648)) ∨ x = y)) : wp d 211 535 [l0, l1, l2, l3] (.inl y :: .inl x :: st) G h Q = if x = y then wp d 211 1337 [l0, l1, l2, l3] st G h Q else wp d 211 538 [l0, l1, l2, l3] st G h Q := x_icc (x = y) (tst_eq x y) rfl rfl hx
set_option maxRecDepth 100000 in
theorem X_211_535_t {d : Nat} {l0 l1 l2 l3 : Option AV} {st : List AV} {x y : Int} {G : AG} {h : AH} {Q : Option AV → AG → AH → Prop} (hx : (((-2147483648 ≤ x ∧ x < 2147483648) ∧ (-2147483648 ≤ y ∧ y < 2147483648)) ∨ x = y) ∧ x = y) : wp d 211 535 [l0, l1, l2, l3] (.inl y :: .inl x :: st) G h Q = wp d 211 1337 [l0, l1, l2, l3] st G h Q := x_ict (x = y) (tst_eq x y) rfl rfl hx
set_option maxRecDepth 100000 in
theorem X_211_535_f {d : Nat} {l0 l1 l2 l3 : Option AV} {st : List AV} {x y : Int} {G : AG} {h : AH} {Q : Option AV → AG → AH → Prop} (hx : (((-2147483648 ≤ x ∧ x < 2147483648) ∧ (-2147483648 ≤ y ∧ y < 2147483648)) ∨ x = y) ∧ ¬ (x = y)) : wp d 211 535 [l0, l1, l2, l3] (.inl y :: .inl x :: st) G h Q = wp d 211 538 [l0, l1, l2, l3] st G h Q := x_icf (x = y) (tst_eq x y) (tgt := 1337) rfl rfl hx
set_option maxRecDepth 100000 in
theorem X_211_538 {d : Nat} {l0 l1 l2 l3 : Option AV} {st : List AV} {G : AG} {h : AH} {Q : Option AV → AG → AH → Prop} : wp d 211 538 [l0, l1, l2, l3] st G h Q = wp d 211 539 [l0, l1, l2, l3] (.inl 0 :: st) G h Q := wp_nx rfl
set_option maxRecDepth 100000 in
theorem X_211_539 {d : Nat} {l0 l1 l2 l3 : Option AV} {x : Int} {G : AG} {h : AH} {Q : Option AV → AG → AH → Prop} (hx : x = 0 ∨ x = 1) : wp d 211 539 [l0, l1, l2, l3] [.inl x] G h Q = Q (some (.inl x)) G h := x_retZ rfl hx
set_option maxRecDepth 100000 in
theorem X_211_540 {d : Nat} {l0 l2 l3 : Option AV} {st : List AV} {x : Nat} {G : AG} {h : AH} {Q : Option AV → AG → AH → Prop} : wp d 211 540 [l0, some (.inr (.inr (some x))), l2, l3] st G h Q = wp d 211 541 [l0, some (.inr (.inr (some x))), l2, l3] (.inr (.inr (some x)) :: st) G h Q := wp_nx rfl
set_option maxRecDepth 100000 in
theorem X_211_541 {d : Nat} {l1 l2 l3 : Option AV} {st : List AV} {x : Nat} {G : AG} {h : AH} {Q : Option AV → AG → AH → Prop} : wp d 211 541 [some (.inr (.inr (some x))), l1, l2, l3] st G h Q = wp d 211 542 [some (.inr (.inr (some x))), l1, l2, l3] (.inr (.inr (some x)) :: st) G h Q := wp_nx rfl
set_option maxRecDepth 100000 in
theorem X_211_542 {d : Nat} {l0 l1 l2 : Option AV} {st : List AV} {x : Int} {G : AG} {h : AH} {Q : Option AV → AG → AH → Prop} : wp d 211 542 [l0, l1, l2, some (.inl x)] st G h Q = wp d 211 543 [l0, l1, l2, some (.inl x)] (.inl x :: st) G h Q := wp_nx rfl
set_option maxRecDepth 100000 in
theorem X_211_543 {d : Nat} {l0 l1 l2 l3 : Option AV} {st : List AV} {G : AG} {h : AH} {Q : Option AV → AG → AH → Prop} : wp d 211 543 [l0, l1, l2, l3] st G h Q = wp d 211 544 [l0, l1, l2, l3] (.inl 1 :: st) G h Q := wp_nx rfl
set_option maxRecDepth 100000 in
theorem X_211_544 {d : Nat} {l0 l1 l2 l3 : Option AV} {st : List AV} {x y : Int} {G : AG} {h : AH} {Q : Option AV → AG → AH → Prop} : wp d 211 544 [l0, l1, l2, l3] (.inl y :: .inl x :: st) G h Q = wp d 211 545 [l0, l1, l2, l3] (.inl (x + y) :: st) G h Q := wp_nx rfl
set_option maxRecDepth 100000 in
theorem X_211_545 {d : Nat} {l0 l1 l2 l3 : Option AV} {st : List AV} {i : Int} {G : AG} {h : AH} {Q : Option AV → AG → AH → Prop} (hk : 0 ≤ i ∧ i < h 1002 0 ∧ h 1002 0 ≤ 100000) : wp d 211 545 [l0, l1, l2, l3] (.inl i :: .inr (.inr (some 1001)) :: st) G h Q = wp d 211 546 [l0, l1, l2, l3] (.inl (h 1001 i.toNat) :: st) G h Q := x_scr rfl hk
set_option maxRecDepth 100000 in
theorem X_211_546 {d : Nat} {l1 l2 l3 : Option AV} {st : List AV} {x : Nat} {G : AG} {h : AH} {Q : Option AV → AG → AH → Prop} : wp d 211 546 [some (.inr (.inr (some x))), l1, l2, l3] st G h Q = wp d 211 547 [some (.inr (.inr (some x))), l1, l2, l3] (.inr (.inr (some x)) :: st) G h Q := wp_nx rfl
set_option maxRecDepth 100000 in
theorem X_211_547 {d : Nat} {l0 l1 l2 : Option AV} {st : List AV} {x : Int} {G : AG} {h : AH} {Q : Option AV → AG → AH → Prop} : wp d 211 547 [l0, l1, l2, some (.inl x)] st G h Q = wp d 211 548 [l0, l1, l2, some (.inl x)] (.inl x :: st) G h Q := wp_nx rfl
set_option maxRecDepth 100000 in
theorem X_211_548 {d : Nat} {l0 l1 l2 l3 : Option AV} {st : List AV} {G : AG} {h : AH} {Q : Option AV → AG → AH → Prop} : wp d 211 548 [l0, l1, l2, l3] st G h Q = wp d 211 549 [l0, l1, l2, l3] (.inl 2 :: st) G h Q := wp_nx rfl
set_option maxRecDepth 100000 in
theorem X_211_549 {d : Nat} {l0 l1 l2 l3 : Option AV} {st : List AV} {x y : Int} {G : AG} {h : AH} {Q : Option AV → AG → AH → Prop} : wp d 211 549 [l0, l1, l2, l3] (.inl y :: .inl x :: st) G h Q = wp d 211 550 [l0, l1, l2, l3] (.inl (x + y) :: st) G h Q := wp_nx rfl
set_option maxRecDepth 100000 in
theorem X_211_550 {d : Nat} {l0 l1 l2 l3 : Option AV} {st : List AV} {i : Int} {G : AG} {h : AH} {Q : Option AV → AG → AH → Prop} (hk : 0 ≤ i ∧ i < h 1002 0 ∧ h 1002 0 ≤ 100000) : wp d 211 550 [l0, l1, l2, l3] (.inl i :: .inr (.inr (some 1001)) :: st) G h Q = wp d 211 551 [l0, l1, l2, l3] (.inl (h 1001 i.toNat) :: st) G h Q := x_scr rfl hk
set_option maxRecDepth 100000 in
theorem X_211_551 {d : Nat} {l0 l1 l2 l3 : Option AV} {o : Nat} {a1 a2 : AV} {G : AG} {h : AH} {Q : Option AV → AG → AH → Prop} (hk : (shp G o).1 = 6 ∧ (shp G o).2 = 13) : wp d 211 551 [l0, l1, l2, l3] (a2 :: a1 :: .inr (.inr (some o)) :: []) G h Q = call d 49 [.inr (.inr (some o)), a1, a2] G h (fun r G2 h2 => wp d 211 554 [l0, l1, l2, l3] (pushR r []) G2 h2 Q) := x_inv (virt := 2) (as := [.inr (.inr (some o)), a1, a2]) (rest := []) rfl rfl rfl (Nat.le_of_ble_eq_true rfl) (rcv_ok hk)
set_option maxRecDepth 100000 in
theorem X_211_554 {d : Nat} {l0 l1 l3 : Option AV} {st : List AV} {x : Nat} {G : AG} {h : AH} {Q : Option AV → AG → AH → Prop} : wp d 211 554 [l0, l1, some (.inr (.inr (some x))), l3] st G h Q = wp d 211 555 [l0, l1, some (.inr (.inr (some x))), l3] (.inr (.inr (some x)) :: st) G h Q := wp_nx rfl
set_option maxRecDepth 100000 in
theorem X_211_555 {d : Nat} {l1 l2 l3 : Option AV} {st : List AV} {x : Nat} {G : AG} {h : AH} {Q : Option AV → AG → AH → Prop} : wp d 211 555 [some (.inr (.inr (some x))), l1, l2, l3] st G h Q = wp d 211 556 [some (.inr (.inr (some x))), l1, l2, l3] (.inr (.inr (some x)) :: st) G h Q := wp_nx rfl
set_option maxRecDepth 100000 in
theorem X_211_556 {d : Nat} {l0 l1 l2 : Option AV} {st : List AV} {x : Int} {G : AG} {h : AH} {Q : Option AV → AG → AH → Prop} : wp d 211 556 [l0, l1, l2, some (.inl x)] st G h Q = wp d 211 557 [l0, l1, l2, some (.inl x)] (.inl x :: st) G h Q := wp_nx rfl
set_option maxRecDepth 100000 in
theorem X_211_557 {d : Nat} {l0 l1 l2 l3 : Option AV} {st : List AV} {G : AG} {h : AH} {Q : Option AV → AG → AH → Prop} : wp d 211 557 [l0, l1, l2, l3] st G h Q = wp d 211 558 [l0, l1, l2, l3] (.inl 1 :: st) G h Q := wp_nx rfl
set_option maxRecDepth 100000 in
theorem X_211_558 {d : Nat} {l0 l1 l2 l3 : Option AV} {st : List AV} {x y : Int} {G : AG} {h : AH} {Q : Option AV → AG → AH → Prop} : wp d 211 558 [l0, l1, l2, l3] (.inl y :: .inl x :: st) G h Q = wp d 211 559 [l0, l1, l2, l3] (.inl (x + y) :: st) G h Q := wp_nx rfl
set_option maxRecDepth 100000 in
theorem X_211_559 {d : Nat} {l0 l1 l2 l3 : Option AV} {st : List AV} {i : Int} {G : AG} {h : AH} {Q : Option AV → AG → AH → Prop} (hk : 0 ≤ i ∧ i < h 1002 0 ∧ h 1002 0 ≤ 100000) : wp d 211 559 [l0, l1, l2, l3] (.inl i :: .inr (.inr (some 1001)) :: st) G h Q = wp d 211 560 [l0, l1, l2, l3] (.inl (h 1001 i.toNat) :: st) G h Q := x_scr rfl hk
set_option maxRecDepth 100000 in
theorem X_211_560 {d : Nat} {l1 l2 l3 : Option AV} {st : List AV} {x : Nat} {G : AG} {h : AH} {Q : Option AV → AG → AH → Prop} : wp d 211 560 [some (.inr (.inr (some x))), l1, l2, l3] st G h Q = wp d 211 561 [some (.inr (.inr (some x))), l1, l2, l3] (.inr (.inr (some x)) :: st) G h Q := wp_nx rfl
set_option maxRecDepth 100000 in
theorem X_211_561 {d : Nat} {l0 l1 l2 : Option AV} {st : List AV} {x : Int} {G : AG} {h : AH} {Q : Option AV → AG → AH → Prop} : wp d 211 561 [l0, l1, l2, some (.inl x)] st G h Q = wp d 211 562 [l0, l1, l2, some (.inl x)] (.inl x :: st) G h Q := wp_nx rfl
set_option maxRecDepth 100000 in
theorem X_211_562 {d : Nat} {l0 l1 l2 l3 : Option AV} {st : List AV} {G : AG} {h : AH} {Q : Option AV → AG → AH → Prop} : wp d 211 562 [l0, l1, l2, l3] st G h Q = wp d 211 563 [l0, l1, l2, l3] (.inl 2 :: st) G h Q := wp_nx rfl
set_option maxRecDepth 100000 in
theorem X_211_563 {d : Nat} {l0 l1 l2 l3 : Option AV} {st : List AV} {x y : Int} {G : AG} {h : AH} {Q : Option AV → AG → AH → Prop} : wp d 211 563 [l0, l1, l2, l3] (.inl y :: .inl x :: st) G h Q = wp d 211 564 [l0, l1, l2, l3] (.inl (x + y) :: st) G h Q := wp_nx rfl
set_option maxRecDepth 100000 in
theorem X_211_564 {d : Nat} {l0 l1 l2 l3 : Option AV} {st : List AV} {i : Int} {G : AG} {h : AH} {Q : Option AV → AG → AH → Prop} (hk : 0 ≤ i ∧ i < h 1002 0 ∧ h 1002 0 ≤ 100000) : wp d 211 564 [l0, l1, l2, l3] (.inl i :: .inr (.inr (some 1001)) :: st) G h Q = wp d 211 565 [l0, l1, l2, l3] (.inl (h 1001 i.toNat) :: st) G h Q := x_scr rfl hk
set_option maxRecDepth 100000 in
theorem X_211_565 {d : Nat} {l0 l1 l2 l3 : Option AV} {o : Nat} {a1 a2 : AV} {s0 : AV} {G : AG} {h : AH} {Q : Option AV → AG → AH → Prop} (hk : (shp G o).1 = 7 ∧ (shp G o).2 = 20) : wp d 211 565 [l0, l1, l2, l3] (a2 :: a1 :: .inr (.inr (some o)) :: [s0]) G h Q = call d 155 [.inr (.inr (some o)), a1, a2] G h (fun r G2 h2 => wp d 211 568 [l0, l1, l2, l3] (pushR r [s0]) G2 h2 Q) := x_inv (virt := 3) (as := [.inr (.inr (some o)), a1, a2]) (rest := [s0]) rfl rfl rfl (Nat.le_of_ble_eq_true rfl) (rcv_ok hk)
set_option maxRecDepth 100000 in
theorem X_211_568 {d : Nat} {l0 l1 l2 l3 : Option AV} {st : List AV} {x y : Int} {G : AG} {h : AH} {Q : Option AV → AG → AH → Prop} (hx : (((-2147483648 ≤ x ∧ x < 2147483648) ∧ (-2147483648 ≤ y ∧ y < 2147483648)) ∨ x = y)) : wp d 211 568 [l0, l1, l2, l3] (.inl y :: .inl x :: st) G h Q = if x = y then wp d 211 1337 [l0, l1, l2, l3] st G h Q else wp d 211 571 [l0, l1, l2, l3] st G h Q := x_icc (x = y) (tst_eq x y) rfl rfl hx
set_option maxRecDepth 100000 in
theorem X_211_568_t {d : Nat} {l0 l1 l2 l3 : Option AV} {st : List AV} {x y : Int} {G : AG} {h : AH} {Q : Option AV → AG → AH → Prop} (hx : (((-2147483648 ≤ x ∧ x < 2147483648) ∧ (-2147483648 ≤ y ∧ y < 2147483648)) ∨ x = y) ∧ x = y) : wp d 211 568 [l0, l1, l2, l3] (.inl y :: .inl x :: st) G h Q = wp d 211 1337 [l0, l1, l2, l3] st G h Q := x_ict (x = y) (tst_eq x y) rfl rfl hx
set_option maxRecDepth 100000 in
theorem X_211_568_f {d : Nat} {l0 l1 l2 l3 : Option AV} {st : List AV} {x y : Int} {G : AG} {h : AH} {Q : Option AV → AG → AH → Prop} (hx : (((-2147483648 ≤ x ∧ x < 2147483648) ∧ (-2147483648 ≤ y ∧ y < 2147483648)) ∨ x = y) ∧ ¬ (x = y)) : wp d 211 568 [l0, l1, l2, l3] (.inl y :: .inl x :: st) G h Q = wp d 211 571 [l0, l1, l2, l3] st G h Q := x_icf (x = y) (tst_eq x y) (tgt := 1337) rfl rfl hx
set_option maxRecDepth 100000 in
theorem X_211_571 {d : Nat} {l0 l1 l2 l3 : Option AV} {st : List AV} {G : AG} {h : AH} {Q : Option AV → AG → AH → Prop} : wp d 211 571 [l0, l1, l2, l3] st G h Q = wp d 211 572 [l0, l1, l2, l3] (.inl 0 :: st) G h Q := wp_nx rfl
set_option maxRecDepth 100000 in
theorem X_211_572 {d : Nat} {l0 l1 l2 l3 : Option AV} {x : Int} {G : AG} {h : AH} {Q : Option AV → AG → AH → Prop} (hx : x = 0 ∨ x = 1) : wp d 211 572 [l0, l1, l2, l3] [.inl x] G h Q = Q (some (.inl x)) G h := x_retZ rfl hx
set_option maxRecDepth 100000 in
theorem X_211_573 {d : Nat} {l0 l2 l3 : Option AV} {st : List AV} {x : Nat} {G : AG} {h : AH} {Q : Option AV → AG → AH → Prop} : wp d 211 573 [l0, some (.inr (.inr (some x))), l2, l3] st G h Q = wp d 211 574 [l0, some (.inr (.inr (some x))), l2, l3] (.inr (.inr (some x)) :: st) G h Q := wp_nx rfl
set_option maxRecDepth 100000 in
theorem X_211_574 {d : Nat} {l1 l2 l3 : Option AV} {st : List AV} {x : Nat} {G : AG} {h : AH} {Q : Option AV → AG → AH → Prop} : wp d 211 574 [some (.inr (.inr (some x))), l1, l2, l3] st G h Q = wp d 211 575 [some (.inr (.inr (some x))), l1, l2, l3] (.inr (.inr (some x)) :: st) G h Q := wp_nx rfl
set_option maxRecDepth 100000 in
theorem X_211_575 {d : Nat} {l0 l1 l2 : Option AV} {st : List AV} {x : Int} {G : AG} {h : AH} {Q : Option AV → AG → AH → Prop} : wp d 211 575 [l0, l1, l2, some (.inl x)] st G h Q = wp d 211 576 [l0, l1, l2, some (.inl x)] (.inl x :: st) G h Q := wp_nx rfl
set_option maxRecDepth 100000 in
theorem X_211_576 {d : Nat} {l0 l1 l2 l3 : Option AV} {st : List AV} {G : AG} {h : AH} {Q : Option AV → AG → AH → Prop} : wp d 211 576 [l0, l1, l2, l3] st G h Q = wp d 211 577 [l0, l1, l2, l3] (.inl 1 :: st) G h Q := wp_nx rfl
set_option maxRecDepth 100000 in
theorem X_211_577 {d : Nat} {l0 l1 l2 l3 : Option AV} {st : List AV} {x y : Int} {G : AG} {h : AH} {Q : Option AV → AG → AH → Prop} : wp d 211 577 [l0, l1, l2, l3] (.inl y :: .inl x :: st) G h Q = wp d 211 578 [l0, l1, l2, l3] (.inl (x + y) :: st) G h Q := wp_nx rfl
set_option maxRecDepth 100000 in
theorem X_211_578 {d : Nat} {l0 l1 l2 l3 : Option AV} {st : List AV} {i : Int} {G : AG} {h : AH} {Q : Option AV → AG → AH → Prop} (hk : 0 ≤ i ∧ i < h 1002 0 ∧ h 1002 0 ≤ 100000) : wp d 211 578 [l0, l1, l2, l3] (.inl i :: .inr (.inr (some 1001)) :: st) G h Q = wp d 211 579 [l0, l1, l2, l3] (.inl (h 1001 i.toNat) :: st) G h Q := x_scr rfl hk
set_option maxRecDepth 100000 in
theorem X_211_579 {d : Nat} {l1 l2 l3 : Option AV} {st : List AV} {x : Nat} {G : AG} {h : AH} {Q : Option AV → AG → AH → Prop} : wp d 211 579 [some (.inr (.inr (some x))), l1, l2, l3] st G h Q = wp d 211 580 [some (.inr (.inr (some x))), l1, l2, l3] (.inr (.inr (some x)) :: st) G h Q := wp_nx rfl
set_option maxRecDepth 100000 in
theorem X_211_580 {d : Nat} {l0 l1 l2 : Option AV} {st : List AV} {x : Int} {G : AG} {h : AH} {Q : Option AV → AG → AH → Prop} : wp d 211 580 [l0, l1, l2, some (.inl x)] st G h Q = wp d 211 581 [l0, l1, l2, some (.inl x)] (.inl x :: st) G h Q := wp_nx rfl
set_option maxRecDepth 100000 in
theorem X_211_581 {d : Nat} {l0 l1 l2 l3 : Option AV} {st : List AV} {G : AG} {h : AH} {Q : Option AV → AG → AH → Prop} : wp d 211 581 [l0, l1, l2, l3] st G h Q = wp d 211 582 [l0, l1, l2, l3] (.inl 2 :: st) G h Q := wp_nx rfl
set_option maxRecDepth 100000 in
theorem X_211_582 {d : Nat} {l0 l1 l2 l3 : Option AV} {st : List AV} {x y : Int} {G : AG} {h : AH} {Q : Option AV → AG → AH → Prop} : wp d 211 582 [l0, l1, l2, l3] (.inl y :: .inl x :: st) G h Q = wp d 211 583 [l0, l1, l2, l3] (.inl (x + y) :: st) G h Q := wp_nx rfl
set_option maxRecDepth 100000 in
theorem X_211_583 {d : Nat} {l0 l1 l2 l3 : Option AV} {st : List AV} {i : Int} {G : AG} {h : AH} {Q : Option AV → AG → AH → Prop} (hk : 0 ≤ i ∧ i < h 1002 0 ∧ h 1002 0 ≤ 100000) : wp d 211 583 [l0, l1, l2, l3] (.inl i :: .inr (.inr (some 1001)) :: st) G h Q = wp d 211 584 [l0, l1, l2, l3] (.inl (h 1001 i.toNat) :: st) G h Q := x_scr rfl hk
set_option maxRecDepth 100000 in
theorem X_211_584 {d : Nat} {l0 l1 l2 l3 : Option AV} {o : Nat} {a1 a2 : AV} {G : AG} {h : AH} {Q : Option AV → AG → AH → Prop} (hk : (shp G o).1 = 6 ∧ (shp G o).2 = 13) : wp d 211 584 [l0, l1, l2, l3] (a2 :: a1 :: .inr (.inr (some o)) :: []) G h Q = call d 50 [.inr (.inr (some o)), a1, a2] G h (fun r G2 h2 => wp d 211 587 [l0, l1, l2, l3] (pushR r []) G2 h2 Q) := x_inv (virt := 2) (as := [.inr (.inr (some o)), a1, a2]) (rest := []) rfl rfl rfl (Nat.le_of_ble_eq_true rfl) (rcv_ok hk)
set_option maxRecDepth 100000 in
theorem X_211_587 {d : Nat} {l0 l1 l3 : Option AV} {st : List AV} {x : Nat} {G : AG} {h : AH} {Q : Option AV → AG → AH → Prop} : wp d 211 587 [l0, l1, some (.inr (.inr (some x))), l3] st G h Q = wp d 211 588 [l0, l1, some (.inr (.inr (some x))), l3] (.inr (.inr (some x)) :: st) G h Q := wp_nx rfl
set_option maxRecDepth 100000 in
theorem X_211_588 {d : Nat} {l1 l2 l3 : Option AV} {st : List AV} {x : Nat} {G : AG} {h : AH} {Q : Option AV → AG → AH → Prop} : wp d 211 588 [some (.inr (.inr (some x))), l1, l2, l3] st G h Q = wp d 211 589 [some (.inr (.inr (some x))), l1, l2, l3] (.inr (.inr (some x)) :: st) G h Q := wp_nx rfl
set_option maxRecDepth 100000 in
theorem X_211_589 {d : Nat} {l0 l1 l2 : Option AV} {st : List AV} {x : Int} {G : AG} {h : AH} {Q : Option AV → AG → AH → Prop} : wp d 211 589 [l0, l1, l2, some (.inl x)] st G h Q = wp d 211 590 [l0, l1, l2, some (.inl x)] (.inl x :: st) G h Q := wp_nx rfl
set_option maxRecDepth 100000 in
theorem X_211_590 {d : Nat} {l0 l1 l2 l3 : Option AV} {st : List AV} {G : AG} {h : AH} {Q : Option AV → AG → AH → Prop} : wp d 211 590 [l0, l1, l2, l3] st G h Q = wp d 211 591 [l0, l1, l2, l3] (.inl 1 :: st) G h Q := wp_nx rfl
set_option maxRecDepth 100000 in
theorem X_211_591 {d : Nat} {l0 l1 l2 l3 : Option AV} {st : List AV} {x y : Int} {G : AG} {h : AH} {Q : Option AV → AG → AH → Prop} : wp d 211 591 [l0, l1, l2, l3] (.inl y :: .inl x :: st) G h Q = wp d 211 592 [l0, l1, l2, l3] (.inl (x + y) :: st) G h Q := wp_nx rfl
set_option maxRecDepth 100000 in
theorem X_211_592 {d : Nat} {l0 l1 l2 l3 : Option AV} {st : List AV} {i : Int} {G : AG} {h : AH} {Q : Option AV → AG → AH → Prop} (hk : 0 ≤ i ∧ i < h 1002 0 ∧ h 1002 0 ≤ 100000) : wp d 211 592 [l0, l1, l2, l3] (.inl i :: .inr (.inr (some 1001)) :: st) G h Q = wp d 211 593 [l0, l1, l2, l3] (.inl (h 1001 i.toNat) :: st) G h Q := x_scr rfl hk
set_option maxRecDepth 100000 in
theorem X_211_593 {d : Nat} {l1 l2 l3 : Option AV} {st : List AV} {x : Nat} {G : AG} {h : AH} {Q : Option AV → AG → AH → Prop} : wp d 211 593 [some (.inr (.inr (some x))), l1, l2, l3] st G h Q = wp d 211 594 [some (.inr (.inr (some x))), l1, l2, l3] (.inr (.inr (some x)) :: st) G h Q := wp_nx rfl
set_option maxRecDepth 100000 in
theorem X_211_594 {d : Nat} {l0 l1 l2 : Option AV} {st : List AV} {x : Int} {G : AG} {h : AH} {Q : Option AV → AG → AH → Prop} : wp d 211 594 [l0, l1, l2, some (.inl x)] st G h Q = wp d 211 595 [l0, l1, l2, some (.inl x)] (.inl x :: st) G h Q := wp_nx rfl
set_option maxRecDepth 100000 in
theorem X_211_595 {d : Nat} {l0 l1 l2 l3 : Option AV} {st : List AV} {G : AG} {h : AH} {Q : Option AV → AG → AH → Prop} : wp d 211 595 [l0, l1, l2, l3] st G h Q = wp d 211 596 [l0, l1, l2, l3] (.inl 2 :: st) G h Q := wp_nx rfl
set_option maxRecDepth 100000 in
theorem X_211_596 {d : Nat} {l0 l1 l2 l3 : Option AV} {st : List AV} {x y : Int} {G : AG} {h : AH} {Q : Option AV → AG → AH → Prop} : wp d 211 596 [l0, l1, l2, l3] (.inl y :: .inl x :: st) G h Q = wp d 211 597 [l0, l1, l2, l3] (.inl (x + y) :: st) G h Q := wp_nx rfl
set_option maxRecDepth 100000 in
theorem X_211_597 {d : Nat} {l0 l1 l2 l3 : Option AV} {st : List AV} {i : Int} {G : AG} {h : AH} {Q : Option AV → AG → AH → Prop} (hk : 0 ≤ i ∧ i < h 1002 0 ∧ h 1002 0 ≤ 100000) : wp d 211 597 [l0, l1, l2, l3] (.inl i :: .inr (.inr (some 1001)) :: st) G h Q = wp d 211 598 [l0, l1, l2, l3] (.inl (h 1001 i.toNat) :: st) G h Q := x_scr rfl hk
set_option maxRecDepth 100000 in
theorem X_211_598 {d : Nat} {l0 l1 l2 l3 : Option AV} {o : Nat} {a1 a2 : AV} {s0 : AV} {G : AG} {h : AH} {Q : Option AV → AG → AH → Prop} (hk : (shp G o).1 = 7 ∧ (shp G o).2 = 20) : wp d 211 598 [l0, l1, l2, l3] (a2 :: a1 :: .inr (.inr (some o)) :: [s0]) G h Q = call d 156 [.inr (.inr (some o)), a1, a2] G h (fun r G2 h2 => wp d 211 601 [l0, l1, l2, l3] (pushR r [s0]) G2 h2 Q) := x_inv (virt := 3) (as := [.inr (.inr (some o)), a1, a2]) (rest := [s0]) rfl rfl rfl (Nat.le_of_ble_eq_true rfl) (rcv_ok hk)
set_option maxRecDepth 100000 in
theorem X_211_601 {d : Nat} {l0 l1 l2 l3 : Option AV} {st : List AV} {x y : Int} {G : AG} {h : AH} {Q : Option AV → AG → AH → Prop} (hx : (((-2147483648 ≤ x ∧ x < 2147483648) ∧ (-2147483648 ≤ y ∧ y < 2147483648)) ∨ x = y)) : wp d 211 601 [l0, l1, l2, l3] (.inl y :: .inl x :: st) G h Q = if x = y then wp d 211 1337 [l0, l1, l2, l3] st G h Q else wp d 211 604 [l0, l1, l2, l3] st G h Q := x_icc (x = y) (tst_eq x y) rfl rfl hx
set_option maxRecDepth 100000 in
theorem X_211_601_t {d : Nat} {l0 l1 l2 l3 : Option AV} {st : List AV} {x y : Int} {G : AG} {h : AH} {Q : Option AV → AG → AH → Prop} (hx : (((-2147483648 ≤ x ∧ x < 2147483648) ∧ (-2147483648 ≤ y ∧ y < 2147483648)) ∨ x = y) ∧ x = y) : wp d 211 601 [l0, l1, l2, l3] (.inl y :: .inl x :: st) G h Q = wp d 211 1337 [l0, l1, l2, l3] st G h Q := x_ict (x = y) (tst_eq x y) rfl rfl hx
set_option maxRecDepth 100000 in
theorem X_211_601_f {d : Nat} {l0 l1 l2 l3 : Option AV} {st : List AV} {x y : Int} {G : AG} {h : AH} {Q : Option AV → AG → AH → Prop} (hx : (((-2147483648 ≤ x ∧ x < 2147483648) ∧ (-2147483648 ≤ y ∧ y < 2147483648)) ∨ x = y) ∧ ¬ (x = y)) : wp d 211 601 [l0, l1, l2, l3] (.inl y :: .inl x :: st) G h Q = wp d 211 604 [l0, l1, l2, l3] st G h Q := x_icf (x = y) (tst_eq x y) (tgt := 1337) rfl rfl hx
set_option maxRecDepth 100000 in
theorem X_211_604 {d : Nat} {l0 l1 l2 l3 : Option AV} {st : List AV} {G : AG} {h : AH} {Q : Option AV → AG → AH → Prop} : wp d 211 604 [l0, l1, l2, l3] st G h Q = wp d 211 605 [l0, l1, l2, l3] (.inl 0 :: st) G h Q := wp_nx rfl
set_option maxRecDepth 100000 in
theorem X_211_605 {d : Nat} {l0 l1 l2 l3 : Option AV} {x : Int} {G : AG} {h : AH} {Q : Option AV → AG → AH → Prop} (hx : x = 0 ∨ x = 1) : wp d 211 605 [l0, l1, l2, l3] [.inl x] G h Q = Q (some (.inl x)) G h := x_retZ rfl hx
set_option maxRecDepth 100000 in
theorem X_211_606 {d : Nat} {l0 l2 l3 : Option AV} {st : List AV} {x : Nat} {G : AG} {h : AH} {Q : Option AV → AG → AH → Prop} : wp d 211 606 [l0, some (.inr (.inr (some x))), l2, l3] st G h Q = wp d 211 607 [l0, some (.inr (.inr (some x))), l2, l3] (.inr (.inr (some x)) :: st) G h Q := wp_nx rfl
set_option maxRecDepth 100000 in
theorem X_211_607 {d : Nat} {l1 l2 l3 : Option AV} {st : List AV} {x : Nat} {G : AG} {h : AH} {Q : Option AV → AG → AH → Prop} : wp d 211 607 [some (.inr (.inr (some x))), l1, l2, l3] st G h Q = wp d 211 608 [some (.inr (.inr (some x))), l1, l2, l3] (.inr (.inr (some x)) :: st) G h Q := wp_nx rfl
set_option maxRecDepth 100000 in
theorem X_211_608 {d : Nat} {l0 l1 l2 : Option AV} {st : List AV} {x : Int} {G : AG} {h : AH} {Q : Option AV → AG → AH → Prop} : wp d 211 608 [l0, l1, l2, some (.inl x)] st G h Q = wp d 211 609 [l0, l1, l2, some (.inl x)] (.inl x :: st) G h Q := wp_nx rfl
set_option maxRecDepth 100000 in
theorem X_211_609 {d : Nat} {l0 l1 l2 l3 : Option AV} {st : List AV} {G : AG} {h : AH} {Q : Option AV → AG → AH → Prop} : wp d 211 609 [l0, l1, l2, l3] st G h Q = wp d 211 610 [l0, l1, l2, l3] (.inl 1 :: st) G h Q := wp_nx rfl
set_option maxRecDepth 100000 in
theorem X_211_610 {d : Nat} {l0 l1 l2 l3 : Option AV} {st : List AV} {x y : Int} {G : AG} {h : AH} {Q : Option AV → AG → AH → Prop} : wp d 211 610 [l0, l1, l2, l3] (.inl y :: .inl x :: st) G h Q = wp d 211 611 [l0, l1, l2, l3] (.inl (x + y) :: st) G h Q := wp_nx rfl
set_option maxRecDepth 100000 in
theorem X_211_611 {d : Nat} {l0 l1 l2 l3 : Option AV} {st : List AV} {i : Int} {G : AG} {h : AH} {Q : Option AV → AG → AH → Prop} (hk : 0 ≤ i ∧ i < h 1002 0 ∧ h 1002 0 ≤ 100000) : wp d 211 611 [l0, l1, l2, l3] (.inl i :: .inr (.inr (some 1001)) :: st) G h Q = wp d 211 612 [l0, l1, l2, l3] (.inl (h 1001 i.toNat) :: st) G h Q := x_scr rfl hk
set_option maxRecDepth 100000 in
theorem X_211_612 {d : Nat} {l1 l2 l3 : Option AV} {st : List AV} {x : Nat} {G : AG} {h : AH} {Q : Option AV → AG → AH → Prop} : wp d 211 612 [some (.inr (.inr (some x))), l1, l2, l3] st G h Q = wp d 211 613 [some (.inr (.inr (some x))), l1, l2, l3] (.inr (.inr (some x)) :: st) G h Q := wp_nx rfl
set_option maxRecDepth 100000 in
theorem X_211_613 {d : Nat} {l0 l1 l2 : Option AV} {st : List AV} {x : Int} {G : AG} {h : AH} {Q : Option AV → AG → AH → Prop} : wp d 211 613 [l0, l1, l2, some (.inl x)] st G h Q = wp d 211 614 [l0, l1, l2, some (.inl x)] (.inl x :: st) G h Q := wp_nx rfl
set_option maxRecDepth 100000 in
theorem X_211_614 {d : Nat} {l0 l1 l2 l3 : Option AV} {st : List AV} {G : AG} {h : AH} {Q : Option AV → AG → AH → Prop} : wp d 211 614 [l0, l1, l2, l3] st G h Q = wp d 211 615 [l0, l1, l2, l3] (.inl 2 :: st) G h Q := wp_nx rfl
set_option maxRecDepth 100000 in
theorem X_211_615 {d : Nat} {l0 l1 l2 l3 : Option AV} {st : List AV} {x y : Int} {G : AG} {h : AH} {Q : Option AV → AG → AH → Prop} : wp d 211 615 [l0, l1, l2, l3] (.inl y :: .inl x :: st) G h Q = wp d 211 616 [l0, l1, l2, l3] (.inl (x + y) :: st) G h Q := wp_nx rfl
set_option maxRecDepth 100000 in
theorem X_211_616 {d : Nat} {l0 l1 l2 l3 : Option AV} {st : List AV} {i : Int} {G : AG} {h : AH} {Q : Option AV → AG → AH → Prop} (hk : 0 ≤ i ∧ i < h 1002 0 ∧ h 1002 0 ≤ 100000) : wp d 211 616 [l0, l1, l2, l3] (.inl i :: .inr (.inr (some 1001)) :: st) G h Q = wp d 211 617 [l0, l1, l2, l3] (.inl (h 1001 i.toNat) :: st) G h Q := x_scr rfl hk
set_option maxRecDepth 100000 in
theorem X_211_617 {d : Nat} {l0 l1 l2 l3 : Option AV} {o : Nat} {a1 a2 : AV} {G : AG} {h : AH} {Q : Option AV → AG → AH → Prop} (hk : (shp G o).1 = 6 ∧ (shp G o).2 = 13) : wp d 211 617 [l0, l1, l2, l3] (a2 :: a1 :: .inr (.inr (some o)) :: []) G h Q = call d 51 [.inr (.inr (some o)), a1, a2] G h (fun r G2 h2 => wp d 211 620 [l0, l1, l2, l3] (pushR r []) G2 h2 Q) := x_inv (virt := 2) (as := [.inr (.inr (some o)), a1, a2]) (rest := []) rfl rfl rfl (Nat.le_of_ble_eq_true rfl) (rcv_ok hk)
set_option maxRecDepth 100000 in
theorem X_211_620 {d : Nat} {l0 l1 l3 : Option AV} {st : List AV} {x : Nat} {G : AG} {h : AH} {Q : Option AV → AG → AH → Prop} : wp d 211 620 [l0, l1, some (.inr (.inr (some x))), l3] st G h Q = wp d 211 621 [l0, l1, some (.inr (.inr (some x))), l3] (.inr (.inr (some x)) :: st) G h Q := wp_nx rfl
set_option maxRecDepth 100000 in
theorem X_211_621 {d : Nat} {l1 l2 l3 : Option AV} {st : List AV} {x : Nat} {G : AG} {h : AH} {Q : Option AV → AG → AH → Prop} : wp d 211 621 [some (.inr (.inr (some x))), l1, l2, l3] st G h Q = wp d 211 622 [some (.inr (.inr (some x))), l1, l2, l3] (.inr (.inr (some x)) :: st) G h Q := wp_nx rfl
set_option maxRecDepth 100000 in
theorem X_211_622 {d : Nat} {l0 l1 l2 : Option AV} {st : List AV} {x : Int} {G : AG} {h : AH} {Q : Option AV → AG → AH → Prop} : wp d 211 622 [l0, l1, l2, some (.inl x)] st G h Q = wp d 211 623 [l0, l1, l2, some (.inl x)] (.inl x :: st) G h Q := wp_nx rfl
set_option maxRecDepth 100000 in
theorem X_211_623 {d : Nat} {l0 l1 l2 l3 : Option AV} {st : List AV} {G : AG} {h : AH} {Q : Option AV → AG → AH → Prop} : wp d 211 623 [l0, l1, l2, l3] st G h Q = wp d 211 624 [l0, l1, l2, l3] (.inl 1 :: st) G h Q := wp_nx rfl
set_option maxRecDepth 100000 in
theorem X_211_624 {d : Nat} {l0 l1 l2 l3 : Option AV} {st : List AV} {x y : Int} {G : AG} {h : AH} {Q : Option AV → AG → AH → Prop} : wp d 211 624 [l0, l1, l2, l3] (.inl y :: .inl x :: st) G h Q = wp d 211 625 [l0, l1, l2, l3] (.inl (x + y) :: st) G h Q := wp_nx rfl
set_option maxRecDepth 100000 in
theorem X_211_625 {d : Nat} {l0 l1 l2 l3 : Option AV} {st : List AV} {i : Int} {G : AG} {h : AH} {Q : Option AV → AG → AH → Prop} (hk : 0 ≤ i ∧ i < h 1002 0 ∧ h 1002 0 ≤ 100000) : wp d 211 625 [l0, l1, l2, l3] (.inl i :: .inr (.inr (some 1001)) :: st) G h Q = wp d 211 626 [l0, l1, l2, l3] (.inl (h 1001 i.toNat) :: st) G h Q := x_scr rfl hk
set_option maxRecDepth 100000 in
theorem X_211_626 {d : Nat} {l1 l2 l3 : Option AV} {st : List AV} {x : Nat} {G : AG} {h : AH} {Q : Option AV → AG → AH → Prop} : wp d 211 626 [some (.inr (.inr (some x))), l1, l2, l3] st G h Q = wp d 211 627 [some (.inr (.inr (some x))), l1, l2, l3] (.inr (.inr (some x)) :: st) G h Q := wp_nx rfl
set_option maxRecDepth 100000 in
theorem X_211_627 {d : Nat} {l0 l1 l2 : Option AV} {st : List AV} {x : Int} {G : AG} {h : AH} {Q : Option AV → AG → AH → Prop} : wp d 211 627 [l0, l1, l2, some (.inl x)] st G h Q = wp d 211 628 [l0, l1, l2, some (.inl x)] (.inl x :: st) G h Q := wp_nx rfl
set_option maxRecDepth 100000 in
theorem X_211_628 {d : Nat} {l0 l1 l2 l3 : Option AV} {st : List AV} {G : AG} {h : AH} {Q : Option AV → AG → AH → Prop} : wp d 211 628 [l0, l1, l2, l3] st G h Q = wp d 211 629 [l0, l1, l2, l3] (.inl 2 :: st) G h Q := wp_nx rfl
set_option maxRecDepth 100000 in
theorem X_211_629 {d : Nat} {l0 l1 l2 l3 : Option AV} {st : List AV} {x y : Int} {G : AG} {h : AH} {Q : Option AV → AG → AH → Prop} : wp d 211 629 [l0, l1, l2, l3] (.inl y :: .inl x :: st) G h Q = wp d 211 630 [l0, l1, l2, l3] (.inl (x + y) :: st) G h Q := wp_nx rfl
set_option maxRecDepth 100000 in
theorem X_211_630 {d : Nat} {l0 l1 l2 l3 : Option AV} {st : List AV} {i : Int} {G : AG} {h : AH} {Q : Option AV → AG → AH → Prop} (hk : 0 ≤ i ∧ i < h 1002 0 ∧ h 1002 0 ≤ 100000) : wp d 211 630 [l0, l1, l2, l3] (.inl i :: .inr (.inr (some 1001)) :: st) G h Q = wp d 211 631 [l0, l1, l2, l3] (.inl (h 1001 i.toNat) :: st) G h Q := x_scr rfl hk
set_option maxRecDepth 100000 in
theorem X_211_631 {d : Nat} {l0 l1 l2 l3 : Option AV} {o : Nat} {a1 a2 : AV} {s0 : AV} {G : AG} {h : AH} {Q : Option AV → AG → AH → Prop} (hk : (shp G o).1 = 7 ∧ (shp G o).2 = 20) : wp d 211 631 [l0, l1, l2, l3] (a2 :: a1 :: .inr (.inr (some o)) :: [s0]) G h Q = call d 158 [.inr (.inr (some o)), a1, a2] G h (fun r G2 h2 => wp d 211 634 [l0, l1, l2, l3] (pushR r [s0]) G2 h2 Q) := x_inv (virt := 3) (as := [.inr (.inr (some o)), a1, a2]) (rest := [s0]) rfl rfl rfl (Nat.le_of_ble_eq_true rfl) (rcv_ok hk)
set_option maxRecDepth 100000 in
theorem X_211_634 {d : Nat} {l0 l1 l2 l3 : Option AV} {st : List AV} {x y : Int} {G : AG} {h : AH} {Q : Option AV → AG → AH → Prop} (hx : (((-2147483648 ≤ x ∧ x < 2147483648) ∧ (-2147483648 ≤ y ∧ y < 2147483648)) ∨ x = y)) : wp d 211 634 [l0, l1, l2, l3] (.inl y :: .inl x :: st) G h Q = if x = y then wp d 211 1337 [l0, l1, l2, l3] st G h Q else wp d 211 637 [l0, l1, l2, l3] st G h Q := x_icc (x = y) (tst_eq x y) rfl rfl hx
set_option maxRecDepth 100000 in
theorem X_211_634_t {d : Nat} {l0 l1 l2 l3 : Option AV} {st : List AV} {x y : Int} {G : AG} {h : AH} {Q : Option AV → AG → AH → Prop} (hx : (((-2147483648 ≤ x ∧ x < 2147483648) ∧ (-2147483648 ≤ y ∧ y < 2147483648)) ∨ x = y) ∧ x = y) : wp d 211 634 [l0, l1, l2, l3] (.inl y :: .inl x :: st) G h Q = wp d 211 1337 [l0, l1, l2, l3] st G h Q := x_ict (x = y) (tst_eq x y) rfl rfl hx
set_option maxRecDepth 100000 in
theorem X_211_634_f {d : Nat} {l0 l1 l2 l3 : Option AV} {st : List AV} {x y : Int} {G : AG} {h : AH} {Q : Option AV → AG → AH → Prop} (hx : (((-2147483648 ≤ x ∧ x < 2147483648) ∧ (-2147483648 ≤ y ∧ y < 2147483648)) ∨ x = y) ∧ ¬ (x = y)) : wp d 211 634 [l0, l1, l2, l3] (.inl y :: .inl x :: st) G h Q = wp d 211 637 [l0, l1, l2, l3] st G h Q := x_icf (x = y) (tst_eq x y) (tgt := 1337) rfl rfl hx
set_option maxRecDepth 100000 in
theorem X_211_637 {d : Nat} {l0 l1 l2 l3 : Option AV} {st : List AV} {G : AG} {h : AH} {Q : Option AV → AG → AH → Prop} : wp d 211 637 [l0, l1, l2, l3] st G h Q = wp d 211 638 [l0, l1, l2, l3] (.inl 0 :: st) G h Q := wp_nx rfl
set_option maxRecDepth 100000 in
theorem X_211_638 {d : Nat} {l0 l1 l2 l3 : Option AV} {x : Int} {G : AG} {h : AH} {Q : Option AV → AG → AH → Prop} (hx : x = 0 ∨ x = 1) : wp d 211 638 [l0, l1, l2, l3] [.inl x] G h Q = Q (some (.inl x)) G h := x_retZ rfl hx
set_option maxRecDepth 100000 in
theorem X_211_639 {d : Nat} {l0 l2 l3 : Option AV} {st : List AV} {x : Nat} {G : AG} {h : AH} {Q : Option AV → AG → AH → Prop} : wp d 211 639 [l0, some (.inr (.inr (some x))), l2, l3] st G h Q = wp d 211 640 [l0, some (.inr (.inr (some x))), l2, l3] (.inr (.inr (some x)) :: st) G h Q := wp_nx rfl
set_option maxRecDepth 100000 in
theorem X_211_640 {d : Nat} {l1 l2 l3 : Option AV} {st : List AV} {x : Nat} {G : AG} {h : AH} {Q : Option AV → AG → AH → Prop} : wp d 211 640 [some (.inr (.inr (some x))), l1, l2, l3] st G h Q = wp d 211 641 [some (.inr (.inr (some x))), l1, l2, l3] (.inr (.inr (some x)) :: st) G h Q := wp_nx rfl
set_option maxRecDepth 100000 in
theorem X_211_641 {d : Nat} {l0 l1 l2 : Option AV} {st : List AV} {x : Int} {G : AG} {h : AH} {Q : Option AV → AG → AH → Prop} : wp d 211 641 [l0, l1, l2, some (.inl x)] st G h Q = wp d 211 642 [l0, l1, l2, some (.inl x)] (.inl x :: st) G h Q := wp_nx rfl
set_option maxRecDepth 100000 in
theorem X_211_642 {d : Nat} {l0 l1 l2 l3 : Option AV} {st : List AV} {G : AG} {h : AH} {Q : Option AV → AG → AH → Prop} : wp d 211 642 [l0, l1, l2, l3] st G h Q = wp d 211 643 [l0, l1, l2, l3] (.inl 1 :: st) G h Q := wp_nx rfl
set_option maxRecDepth 100000 in
theorem X_211_643 {d : Nat} {l0 l1 l2 l3 : Option AV} {st : List AV} {x y : Int} {G : AG} {h : AH} {Q : Option AV → AG → AH → Prop} : wp d 211 643 [l0, l1, l2, l3] (.inl y :: .inl x :: st) G h Q = wp d 211 644 [l0, l1, l2, l3] (.inl (x + y) :: st) G h Q := wp_nx rfl
set_option maxRecDepth 100000 in
theorem X_211_644 {d : Nat} {l0 l1 l2 l3 : Option AV} {st : List AV} {i : Int} {G : AG} {h : AH} {Q : Option AV → AG → AH → Prop} (hk : 0 ≤ i ∧ i < h 1002 0 ∧ h 1002 0 ≤ 100000) : wp d 211 644 [l0, l1, l2, l3] (.inl i :: .inr (.inr (some 1001)) :: st) G h Q = wp d 211 645 [l0, l1, l2, l3] (.inl (h 1001 i.toNat) :: st) G h Q := x_scr rfl hk
set_option maxRecDepth 100000 in
theorem X_211_645 {d : Nat} {l0 l1 l2 l3 : Option AV} {o : Nat} {a1 : AV} {G : AG} {h : AH} {Q : Option AV → AG → AH → Prop} (hk : (shp G o).1 = 6 ∧ (shp G o).2 = 13) : wp d 211 645 [l0, l1, l2, l3] (a1 :: .inr (.inr (some o)) :: []) G h Q = call d 52 [.inr (.inr (some o)), a1] G h (fun r G2 h2 => wp d 211 648 [l0, l1, l2, l3] (pushR r []) G2 h2 Q) := x_inv (virt := 2) (as := [.inr (.inr (some o)), a1]) (rest := []) rfl rfl rfl (Nat.le_of_ble_eq_true rfl) (rcv_ok hk)
set_option maxRecDepth 100000 in
theorem X_211_648 {d : Nat} {l0 l1 l3 : Option AV} {st : List AV} {x : Nat} {G : AG} {h : AH} {Q : Option AV → AG → AH → Prop} : wp d 211 648 [l0, l1, some (.inr (.inr (some x))), l3] st G h Q = wp d 211 649 [l0, l1, some (.inr (.inr (some x))), l3] (.inr (.inr (some x)) :: st) G h Q := wp_nx rfl
set_option maxRecDepth 100000 in
theorem X_211_649 {d : Nat} {l1 l2 l3 : Option AV} {st : List AV} {x : Nat} {G : AG} {h : AH} {Q : Option AV → AG → AH → Prop} : wp d 211 649 [some (.inr (.inr (some x))), l1, l2, l3] st G h Q = wp d 211 650 [some (.inr (.inr (some x))), l1, l2, l3] (.inr (.inr (some x)) :: st) G h Q := wp_nx rfl
set_option maxRecDepth 100000 in
theorem X_211_650 {d : Nat} {l0 l1 l2 : Option AV} {st : List AV} {x : Int} {G : AG} {h : AH} {Q : Option AV → AG → AH → Prop} : wp d 211 650 [l0, l1, l2, some (.inl x)] st G h Q = wp d 211 651 [l0, l1, l2, some (.inl x)] (.inl x :: st) G h Q := wp_nx rfl
set_option maxRecDepth 100000 in
theorem X_211_651 {d : Nat} {l0 l1 l2 l3 : Option AV} {st : List AV} {G : AG} {h : AH} {Q : Option AV → AG → AH → Prop} : wp d 211 651 [l0, l1, l2, l3] st G h Q = wp d 211 652 [l0, l1, l2, l3] (.inl 1 :: st) G h Q := wp_nx rfl
set_option maxRecDepth 100000 in
theorem X_211_652 {d : Nat} {l0 l1 l2 l3 : Option AV} {st : List AV} {x y : Int} {G : AG} {h : AH} {Q : Option AV → AG → AH → Prop} : wp d 211 652 [l0, l1, l2, l3] (.inl y :: .inl x :: st) G h Q = wp d 211 653 [l0, l1, l2, l3] (.inl (x + y) :: st) G h Q := wp_nx rfl
set_option maxRecDepth 100000 in
theorem X_211_653 {d : Nat} {l0 l1 l2 l3 : Option AV} {st : List AV} {i : Int} {G : AG} {h : AH} {Q : Option AV → AG → AH → Prop} (hk : 0 ≤ i ∧ i < h 1002 0 ∧ h 1002 0 ≤ 100000) : wp d 211 653 [l0, l1, l2, l3] (.inl i :: .inr (.inr (some 1001)) :: st) G h Q = wp d 211 654 [l0, l1, l2, l3] (.inl (h 1001 i.toNat) :: st) G h Q := x_scr rfl hk
set_option maxRecDepth 100000 in
theorem X_211_654 {d : Nat} {l0 l1 l2 l3 : Option AV} {o : Nat} {a1 : AV} {s0 : AV} {G : AG} {h : AH} {Q : Option AV → AG → AH → Prop} (hk : (shp G o).1 = 7 ∧ (shp G o).2 = 20) : wp d 211 654 [l0, l1, l2, l3] (a1 :: .inr (.inr (some o)) :: [s0]) G h Q = call d 159 [.inr (.inr (some o)), a1] G h (fun r G2 h2 => wp d 211 657 [l0, l1, l2, l3] (pushR r [s0]) G2 h2 Q) := x_inv (virt := 3) (as := [.inr (.inr (some o)), a1]) (rest := [s0]) rfl rfl rfl (Nat.le_of_ble_eq_true rfl) (rcv_ok hk)
set_option maxRecDepth 100000 in
theorem X_211_657 {d : Nat} {l0 l1 l2 l3 : Option AV} {st : List AV} {x y : Int} {G : AG} {h : AH} {Q : Option AV → AG → AH → Prop} (hx : (((-2147483648 ≤ x ∧ x < 2147483648) ∧ (-2147483648 ≤ y ∧ y < 2147483648)) ∨ x = y)) : wp d 211 657 [l0, l1, l2, l3] (.inl y :: .inl x :: st) G h Q = if x = y then wp d 211 1337 [l0, l1, l2, l3] st G h Q else wp d 211 660 [l0, l1, l2, l3] st G h Q := x_icc (x = y) (tst_eq x y) rfl rfl hx
set_option maxRecDepth 100000 in
theorem X_211_657_t {d : Nat} {l0 l1 l2 l3 : Option AV} {st : List AV} {x y : Int} {G : AG} {h : AH} {Q : Option AV → AG → AH → Prop} (hx : (((-2147483648 ≤ x ∧ x < 2147483648) ∧ (-2147483648 ≤ y ∧ y < 2147483648)) ∨ x = y) ∧ x = y) : wp d 211 657 [l0, l1, l2, l3] (.inl y :: .inl x :: st) G h Q = wp d 211 1337 [l0, l1, l2, l3] st G h Q := x_ict (x = y) (tst_eq x y) rfl rfl hx
set_option maxRecDepth 100000 in
theorem X_211_657_f {d : Nat} {l0 l1 l2 l3 : Option AV} {st : List AV} {x y : Int} {G : AG} {h : AH} {Q : Option AV → AG → AH → Prop} (hx : (((-2147483648 ≤ x ∧ x < 2147483648) ∧ (-2147483648 ≤ y ∧ y < 2147483648)) ∨ x = y) ∧ ¬ (x = y)) : wp d 211 657 [l0, l1, l2, l3] (.inl y :: .inl x :: st) G h Q = wp d 211 660 [l0, l1, l2, l3] st G h Q := x_icf (x = y) (tst_eq x y) (tgt := 1337) rfl rfl hx
set_option maxRecDepth 100000 in
theorem X_211_660 {d : Nat} {l0 l1 l2 l3 : Option AV} {st : List AV} {G : AG} {h : AH} {Q : Option AV → AG → AH → Prop} : wp d 211 660 [l0, l1, l2, l3] st G h Q = wp d 211 661 [l0, l1, l2, l3] (.inl 0 :: st) G h Q := wp_nx rfl
set_option maxRecDepth 100000 in
theorem X_211_661 {d : Nat} {l0 l1 l2 l3 : Option AV} {x : Int} {G : AG} {h : AH} {Q : Option AV → AG → AH → Prop} (hx : x = 0 ∨ x = 1) : wp d 211 661 [l0, l1, l2, l3] [.inl x] G h Q = Q (some (.inl x)) G h := x_retZ rfl hx
set_option maxRecDepth 100000 in
theorem X_211_662 {d : Nat} {l0 l2 l3 : Option AV} {st : List AV} {x : Nat} {G : AG} {h : AH} {Q : Option AV → AG → AH → Prop} : wp d 211 662 [l0, some (.inr (.inr (some x))), l2, l3] st G h Q = wp d 211 663 [l0, some (.inr (.inr (some x))), l2, l3] (.inr (.inr (some x)) :: st) G h Q := wp_nx rfl
set_option maxRecDepth 100000 in
theorem X_211_663 {d : Nat} {l1 l2 l3 : Option AV} {st : List AV} {x : Nat} {G : AG} {h : AH} {Q : Option AV → AG → AH → Prop} : wp d 211 663 [some (.inr (.inr (some x))), l1, l2, l3] st G h Q = wp d 211 664 [some (.inr (.inr (some x))), l1, l2, l3] (.inr (.inr (some x)) :: st) G h Q := wp_nx rfl
set_option maxRecDepth 100000 in
theorem X_211_664 {d : Nat} {l0 l1 l2 : Option AV} {st : List AV} {x : Int} {G : AG} {h : AH} {Q : Option AV → AG → AH → Prop} : wp d 211 664 [l0, l1, l2, some (.inl x)] st G h Q = wp d 211 665 [l0, l1, l2, some (.inl x)] (.inl x :: st) G h Q := wp_nx rfl
set_option maxRecDepth 100000 in
theorem X_211_665 {d : Nat} {l0 l1 l2 l3 : Option AV} {st : List AV} {G : AG} {h : AH} {Q : Option AV → AG → AH → Prop} : wp d 211 665 [l0, l1, l2, l3] st G h Q = wp d 211 666 [l0, l1, l2, l3] (.inl 1 :: st) G h Q := wp_nx rfl
set_option maxRecDepth 100000 in
theorem X_211_666 {d : Nat} {l0 l1 l2 l3 : Option AV} {st : List AV} {x y : Int} {G : AG} {h : AH} {Q : Option AV → AG → AH → Prop} : wp d 211 666 [l0, l1, l2, l3] (.inl y :: .inl x :: st) G h Q = wp d 211 667 [l0, l1, l2, l3] (.inl (x + y) :: st) G h Q := wp_nx rfl
set_option maxRecDepth 100000 in
theorem X_211_667 {d : Nat} {l0 l1 l2 l3 : Option AV} {st : List AV} {i : Int} {G : AG} {h : AH} {Q : Option AV → AG → AH → Prop} (hk : 0 ≤ i ∧ i < h 1002 0 ∧ h 1002 0 ≤ 100000) : wp d 211 667 [l0, l1, l2, l3] (.inl i :: .inr (.inr (some 1001)) :: st) G h Q = wp d 211 668 [l0, l1, l2, l3] (.inl (h 1001 i.toNat) :: st) G h Q := x_scr rfl hk
set_option maxRecDepth 100000 in
theorem X_211_668 {d : Nat} {l1 l2 l3 : Option AV} {st : List AV} {x : Nat} {G : AG} {h : AH} {Q : Option AV → AG → AH → Prop} : wp d 211 668 [some (.inr (.inr (some x))), l1, l2, l3] st G h Q = wp d 211 669 [some (.inr (.inr (some x))), l1, l2, l3] (.inr (.inr (some x)) :: st) G h Q := wp_nx rfl
set_option maxRecDepth 100000 in
theorem X_211_669 {d : Nat} {l0 l1 l2 : Option AV} {st : List AV} {x : Int} {G : AG} {h : AH} {Q : Option AV → AG → AH → Prop} : wp d 211 669 [l0, l1, l2, some (.inl x)] st G h Q = wp d 211 670 [l0, l1, l2, some (.inl x)] (.inl x :: st) G h Q := wp_nx rfl
set_option maxRecDepth 100000 in
theorem X_211_670 {d : Nat} {l0 l1 l2 l3 : Option AV} {st : List AV} {G : AG} {h : AH} {Q : Option AV → AG → AH → Prop} : wp d 211 670 [l0, l1, l2, l3] st G h Q = wp d 211 671 [l0, l1, l2, l3] (.inl 2 :: st) G h Q := wp_nx rfl
set_option maxRecDepth 100000 in
theorem X_211_671 {d : Nat} {l0 l1 l2 l3 : Option AV} {st : List AV} {x y : Int} {G : AG} {h : AH} {Q : Option AV → AG → AH → Prop} : wp d 211 671 [l0, l1, l2, l3] (.inl y :: .inl x :: st) G h Q = wp d 211 672 [l0, l1, l2, l3] (.inl (x + y) :: st) G h Q := wp_nx rfl
set_option maxRecDepth 100000 in
theorem X_211_672 {d : Nat} {l0 l1 l2 l3 : Option AV} {st : List AV} {i : Int} {G : AG} {h : AH} {Q : Option AV → AG → AH → Prop} (hk : 0 ≤ i ∧ i < h 1002 0 ∧ h 1002 0 ≤ 100000) : wp d 211 672 [l0, l1, l2, l3] (.inl i :: .inr (.inr (some 1001)) :: st) G h Q = wp d 211 673 [l0, l1, l2, l3] (.inl (h 1001 i.toNat) :: st) G h Q := x_scr rfl hk
set_option maxRecDepth 100000 in
theorem X_211_673 {d : Nat} {l0 l1 l2 l3 : Option AV} {o : Nat} {a1 a2 : AV} {G : AG} {h : AH} {Q : Option AV → AG → AH → Prop} (hk : (shp G o).1 = 6 ∧ (shp G o).2 = 13) : wp d 211 673 [l0, l1, l2, l3] (a2 :: a1 :: .inr (.inr (some o)) :: []) G h Q = call d 53 [.inr (.inr (some o)), a1, a2] G h (fun r G2 h2 => wp d 211 676 [l0, l1, l2, l3] (pushR r []) G2 h2 Q) := x_inv (virt := 2) (as := [.inr (.inr (some o)), a1, a2]) (rest := []) rfl rfl rfl (Nat.le_of_ble_eq_true rfl) (rcv_ok hk)
set_option maxRecDepth 100000 in
theorem X_211_676 {d : Nat} {l0 l1 l3 : Option AV} {st : List AV} {x : Nat} {G : AG} {h : AH} {Q : Option AV → AG → AH → Prop} : wp d 211 676 [l0, l1, some (.inr (.inr (some x))), l3] st G h Q = wp d 211 677 [l0, l1, some (.inr (.inr (some x))), l3] (.inr (.inr (some x)) :: st) G h Q := wp_nx rfl
set_option maxRecDepth 100000 in
theorem X_211_677 {d : Nat} {l1 l2 l3 : Option AV} {st : List AV} {x : Nat} {G : AG} {h : AH} {Q : Option AV → AG → AH → Prop} : wp d 211 677 [some (.inr (.inr (some x))), l1, l2, l3] st G h Q = wp d 211 678 [some (.inr (.inr (some x))), l1, l2, l3] (.inr (.inr (some x)) :: st) G h Q := wp_nx rfl
set_option maxRecDepth 100000 in
theorem X_211_678 {d : Nat} {l0 l1 l2 : Option AV} {st : List AV} {x : Int} {G : AG} {h : AH} {Q : Option AV → AG → AH → Prop} : wp d 211 678 [l0, l1, l2, some (.inl x)] st G h Q = wp d 211 679 [l0, l1, l2, some (.inl x)] (.inl x :: st) G h Q := wp_nx rfl
set_option maxRecDepth 100000 in
theorem X_211_679 {d : Nat} {l0 l1 l2 l3 : Option AV} {st : List AV} {G : AG} {h : AH} {Q : Option AV → AG → AH → Prop} : wp d 211 679 [l0, l1, l2, l3] st G h Q = wp d 211 680 [l0, l1, l2, l3] (.inl 1 :: st) G h Q := wp_nx rfl
set_option maxRecDepth 100000 in
theorem X_211_680 {d : Nat} {l0 l1 l2 l3 : Option AV} {st : List AV} {x y : Int} {G : AG} {h : AH} {Q : Option AV → AG → AH → Prop} : wp d 211 680 [l0, l1, l2, l3] (.inl y :: .inl x :: st) G h Q = wp d 211 681 [l0, l1, l2, l3] (.inl (x + y) :: st) G h Q := wp_nx rfl
set_option maxRecDepth 100000 in
theorem X_211_681 {d : Nat} {l0 l1 l2 l3 : Option AV} {st : List AV} {i : Int} {G : AG} {h : AH} {Q : Option AV → AG → AH → Prop} (hk : 0 ≤ i ∧ i < h 1002 0 ∧ h 1002 0 ≤ 100000) : wp d 211 681 [l0, l1, l2, l3] (.inl i :: .inr (.inr (some 1001)) :: st) G h Q = wp d 211 682 [l0, l1, l2, l3] (.inl (h 1001 i.toNat) :: st) G h Q := x_scr rfl hk
set_option maxRecDepth 100000 in
theorem X_211_682 {d : Nat} {l1 l2 l3 : Option AV} {st : List AV} {x : Nat} {G : AG} {h : AH} {Q : Option AV → AG → AH → Prop} : wp d 211 682 [some (.inr (.inr (some x))), l1, l2, l3] st G h Q = wp d 211 683 [some (.inr (.inr (some x))), l1, l2, l3] (.inr (.inr (some x)) :: st) G h Q := wp_nx rfl
set_option maxRecDepth 100000 in
theorem X_211_683 {d : Nat} {l0 l1 l2 : Option AV} {st : List AV} {x : Int} {G : AG} {h : AH} {Q : Option AV → AG → AH → Prop} : wp d 211 683 [l0, l1, l2, some (.inl x)] st G h Q = wp d 211 684 [l0, l1, l2, some (.inl x)] (.inl x :: st) G h Q := wp_nx rfl
set_option maxRecDepth 100000 in
theorem X_211_684 {d : Nat} {l0 l1 l2 l3 : Option AV} {st : List AV} {G : AG} {h : AH} {Q : Option AV → AG → AH → Prop} : wp d 211 684 [l0, l1, l2, l3] st G h Q = wp d 211 685 [l0, l1, l2, l3] (.inl 2 :: st) G h Q := wp_nx rfl
set_option maxRecDepth 100000 in
theorem X_211_685 {d : Nat} {l0 l1 l2 l3 : Option AV} {st : List AV} {x y : Int} {G : AG} {h : AH} {Q : Option AV → AG → AH → Prop} : wp d 211 685 [l0, l1, l2, l3] (.inl y :: .inl x :: st) G h Q = wp d 211 686 [l0, l1, l2, l3] (.inl (x + y) :: st) G h Q := wp_nx rfl
set_option maxRecDepth 100000 in
theorem X_211_686 {d : Nat} {l0 l1 l2 l3 : Option AV} {st : List AV} {i : Int} {G : AG} {h : AH} {Q : Option AV → AG → AH → Prop} (hk : 0 ≤ i ∧ i < h 1002 0 ∧ h 1002 0 ≤ 100000) : wp d 211 686 [l0, l1, l2, l3] (.inl i :: .inr (.inr (some 1001)) :: st) G h Q = wp d 211 687 [l0, l1, l2, l3] (.inl (h 1001 i.toNat) :: st) G h Q := x_scr rfl hk
set_option maxRecDepth 100000 in
theorem X_211_687 {d : Nat} {l0 l1 l2 l3 : Option AV} {o : Nat} {a1 a2 : AV} {s0 : AV} {G : AG} {h : AH} {Q : Option AV → AG → AH → Prop} (hk : (shp G o).1 = 7 ∧ (shp G o).2 = 20) : wp d 211 687 [l0, l1, l2, l3] (a2 :: a1 :: .inr (.inr (some o)) :: [s0]) G h Q = call d 160 [.inr (.inr (some o)), a1, a2] G h (fun r G2 h2 => wp d 211 690 [l0, l1, l2, l3] (pushR r [s0]) G2 h2 Q) := x_inv (virt := 3) (as := [.inr (.inr (some o)), a1, a2]) (rest := [s0]) rfl rfl rfl (Nat.le_of_ble_eq_true rfl) (rcv_ok hk)
set_option maxRecDepth 100000 in
theorem X_211_690 {d : Nat} {l0 l1 l2 l3 : Option AV} {st : List AV} {x y : Int} {G : AG} {h : AH} {Q : Option AV → AG → AH → Prop} (hx : (((-2147483648 ≤ x ∧ x < 2147483648) ∧ (-2147483648 ≤ y ∧ y < 2147483648)) ∨ x = y)) : wp d 211 690 [l0, l1, l2, l3] (.inl y :: .inl x :: st) G h Q = if x = y then wp d 211 1337 [l0, l1, l2, l3] st G h Q else wp d 211 693 [l0, l1, l2, l3] st G h Q := x_icc (x = y) (tst_eq x y) rfl rfl hx
set_option maxRecDepth 100000 in
theorem X_211_690_t {d : Nat} {l0 l1 l2 l3 : Option AV} {st : List AV} {x y : Int} {G : AG} {h : AH} {Q : Option AV → AG → AH → Prop} (hx : (((-2147483648 ≤ x ∧ x < 2147483648) ∧ (-2147483648 ≤ y ∧ y < 2147483648)) ∨ x = y) ∧ x = y) : wp d 211 690 [l0, l1, l2, l3] (.inl y :: .inl x :: st) G h Q = wp d 211 1337 [l0, l1, l2, l3] st G h Q := x_ict (x = y) (tst_eq x y) rfl rfl hx
set_option maxRecDepth 100000 in
theorem X_211_690_f {d : Nat} {l0 l1 l2 l3 : Option AV} {st : List AV} {x y : Int} {G : AG} {h : AH} {Q : Option AV → AG → AH → Prop} (hx : (((-2147483648 ≤ x ∧ x < 2147483648) ∧ (-2147483648 ≤ y ∧ y < 2147483648)) ∨ x = y) ∧ ¬ (x = y)) : wp d 211 690 [l0, l1, l2, l3] (.inl y :: .inl x :: st) G h Q = wp d 211 693 [l0, l1, l2, l3] st G h Q := x_icf (x = y) (tst_eq x y) (tgt := 1337) rfl rfl hx
set_option maxRecDepth 100000 in
theorem X_211_693 {d : Nat} {l0 l1 l2 l3 : Option AV} {st : List AV} {G : AG} {h : AH} {Q : Option AV → AG → AH → Prop} : wp d 211 693 [l0, l1, l2, l3] st G h Q = wp d 211 694 [l0, l1, l2, l3] (.inl 0 :: st) G h Q := wp_nx rfl
set_option maxRecDepth 100000 in
theorem X_211_694 {d : Nat} {l0 l1 l2 l3 : Option AV} {x : Int} {G : AG} {h : AH} {Q : Option AV → AG → AH → Prop} (hx : x = 0 ∨ x = 1) : wp d 211 694 [l0, l1, l2, l3] [.inl x] G h Q = Q (some (.inl x)) G h := x_retZ rfl hx
set_option maxRecDepth 100000 in
theorem X_211_695 {d : Nat} {l0 l2 l3 : Option AV} {st : List AV} {x : Nat} {G : AG} {h : AH} {Q : Option AV → AG → AH → Prop} : wp d 211 695 [l0, some (.inr (.inr (some x))), l2, l3] st G h Q = wp d 211 696 [l0, some (.inr (.inr (some x))), l2, l3] (.inr (.inr (some x)) :: st) G h Q := wp_nx rfl
set_option maxRecDepth 100000 in
theorem X_211_696 {d : Nat} {l1 l2 l3 : Option AV} {st : List AV} {x : Nat} {G : AG} {h : AH} {Q : Option AV → AG → AH → Prop} : wp d 211 696 [some (.inr (.inr (some x))), l1, l2, l3] st G h Q = wp d 211 697 [some (.inr (.inr (some x))), l1, l2, l3] (.inr (.inr (some x)) :: st) G h Q := wp_nx rfl
set_option maxRecDepth 100000 in
theorem X_211_697 {d : Nat} {l0 l1 l2 : Option AV} {st : List AV} {x : Int} {G : AG} {h : AH} {Q : Option AV → AG → AH → Prop} : wp d 211 697 [l0, l1, l2, some (.inl x)] st G h Q = wp d 211 698 [l0, l1, l2, some (.inl x)] (.inl x :: st) G h Q := wp_nx rfl
set_option maxRecDepth 100000 in
theorem X_211_698 {d : Nat} {l0 l1 l2 l3 : Option AV} {st : List AV} {G : AG} {h : AH} {Q : Option AV → AG → AH → Prop} : wp d 211 698 [l0, l1, l2, l3] st G h Q = wp d 211 699 [l0, l1, l2, l3] (.inl 1 :: st) G h Q := wp_nx rfl
set_option maxRecDepth 100000 in
theorem X_211_699 {d : Nat} {l0 l1 l2 l3 : Option AV} {st : List AV} {x y : Int} {G : AG} {h : AH} {Q : Option AV → AG → AH → Prop} : wp d 211 699 [l0, l1, l2, l3] (.inl y :: .inl x :: st) G h Q = wp d 211 700 [l0, l1, l2, l3] (.inl (x + y) :: st) G h Q := wp_nx rfl
set_option maxRecDepth 100000 in
theorem X_211_700 {d : Nat} {l0 l1 l2 l3 : Option AV} {st : List AV} {i : Int} {G : AG} {h : AH} {Q : Option AV → AG → AH → Prop} (hk : 0 ≤ i ∧ i < h 1002 0 ∧ h 1002 0 ≤ 100000) : wp d 211 700 [l0, l1, l2, l3] (.inl i :: .inr (.inr (some 1001)) :: st) G h Q = wp d 211 701 [l0, l1, l2, l3] (.inl (h 1001 i.toNat) :: st) G h Q := x_scr rfl hk
set_option maxRecDepth 100000 in
theorem X_211_701 {d : Nat} {l0 l1 l2 l3 : Option AV} {o : Nat} {a1 : AV} {G : AG} {h : AH} {Q : Option AV → AG → AH → Prop} (hk : (shp G o).1 = 6 ∧ (shp G o).2 = 13) : wp d 211 701 [l0, l1, l2, l3] (a1 :: .inr (.inr (some o)) :: []) G h Q = call d 54 [.inr (.inr (some o)), a1] G h (fun r G2 h2 => wp d 211 704 [l0, l1, l2, l3] (pushR r []) G2 h2 Q) := x_inv (virt := 2) (as := [.inr (.inr (some o)), a1]) (rest := []) rfl rfl rfl (Nat.le_of_ble_eq_true rfl) (rcv_ok hk)
set_option maxRecDepth 100000 in
theorem X_211_704 {d : Nat} {l0 l1 l3 : Option AV} {st : List AV} {x : Nat} {G : AG} {h : AH} {Q : Option AV → AG → AH → Prop} : wp d 211 704 [l0, l1, some (.inr (.inr (some x))), l3] st G h Q = wp d 211 705 [l0, l1, some (.inr (.inr (some x))), l3] (.inr (.inr (some x)) :: st) G h Q := wp_nx rfl
set_option maxRecDepth 100000 in
theorem X_211_705 {d : Nat} {l1 l2 l3 : Option AV} {st : List AV} {x : Nat} {G : AG} {h : AH} {Q : Option AV → AG → AH → Prop} : wp d 211 705 [some (.inr (.inr (some x))), l1, l2, l3] st G h Q = wp d 211 706 [some (.inr (.inr (some x))), l1, l2, l3] (.inr (.inr (some x)) :: st) G h Q := wp_nx rfl
set_option maxRecDepth 100000 in
theorem X_211_706 {d : Nat} {l0 l1 l2 : Option AV} {st : List AV} {x : Int} {G : AG} {h : AH} {Q : Option AV → AG → AH → Prop} : wp d 211 706 [l0, l1, l2, some (.inl x)] st G h Q = wp d 211 707 [l0, l1, l2, some (.inl x)] (.inl x :: st) G h Q := wp_nx rfl
set_option maxRecDepth 100000 in
theorem X_211_707 {d : Nat} {l0 l1 l2 l3 : Option AV} {st : List AV} {G : AG} {h : AH} {Q : Option AV → AG → AH → Prop} : wp d 211 707 [l0, l1, l2, l3] st G h Q = wp d 211 708 [l0, l1, l2, l3] (.inl 1 :: st) G h Q := wp_nx rfl
set_option maxRecDepth 100000 in
theorem X_211_708 {d : Nat} {l0 l1 l2 l3 : Option AV} {st : List AV} {x y : Int} {G : AG} {h : AH} {Q : Option AV → AG → AH → Prop} : wp d 211 708 [l0, l1, l2, l3] (.inl y :: .inl x :: st) G h Q = wp d 211 709 [l0, l1, l2, l3] (.inl (x + y) :: st) G h Q := wp_nx rfl
set_option maxRecDepth 100000 in
theorem X_211_709 {d : Nat} {l0 l1 l2 l3 : Option AV} {st : List AV} {i : Int} {G : AG} {h : AH} {Q : Option AV → AG → AH → Prop} (hk : 0 ≤ i ∧ i < h 1002 0 ∧ h 1002 0 ≤ 100000) : wp d 211 709 [l0, l1, l2, l3] (.inl i :: .inr (.inr (some 1001)) :: st) G h Q = wp d 211 710 [l0, l1, l2, l3] (.inl (h 1001 i.toNat) :: st) G h Q := x_scr rfl hk
set_option maxRecDepth 100000 in
theorem X_211_710 {d : Nat} {l0 l1 l2 l3 : Option AV} {o : Nat} {a1 : AV} {s0 : AV} {G : AG} {h : AH} {Q : Option AV → AG → AH → Prop} (hk : (shp G o).1 = 7 ∧ (shp G o).2 = 20) : wp d 211 710 [l0, l1, l2, l3] (a1 :: .inr (.inr (some o)) :: [s0]) G h Q = call d 161 [.inr (.inr (some o)), a1] G h (fun r G2 h2 => wp d 211 713 [l0, l1, l2, l3] (pushR r [s0]) G2 h2 Q) := x_inv (virt := 3) (as := [.inr (.inr (some o)), a1]) (rest := [s0]) rfl rfl rfl (Nat.le_of_ble_eq_true rfl) (rcv_ok hk)
set_option maxRecDepth 100000 in
theorem X_211_713 {d : Nat} {l0 l1 l2 l3 : Option AV} {st : List AV} {x y : Int} {G : AG} {h : AH} {Q : Option AV → AG → AH → Prop} (hx : (((-2147483648 ≤ x ∧ x < 2147483648) ∧ (-2147483648 ≤ y ∧ y < 2147483648)) ∨ x = y)) : wp d 211 713 [l0, l1, l2, l3] (.inl y :: .inl x :: st) G h Q = if x = y then wp d 211 1337 [l0, l1, l2, l3] st G h Q else wp d 211 716 [l0, l1, l2, l3] st G h Q := x_icc (x = y) (tst_eq x y) rfl rfl hx
set_option maxRecDepth 100000 in
theorem X_211_713_t {d : Nat} {l0 l1 l2 l3 : Option AV} {st : List AV} {x y : Int} {G : AG} {h : AH} {Q : Option AV → AG → AH → Prop} (hx : (((-2147483648 ≤ x ∧ x < 2147483648) ∧ (-2147483648 ≤ y ∧ y < 2147483648)) ∨ x = y) ∧ x = y) : wp d 211 713 [l0, l1, l2, l3] (.inl y :: .inl x :: st) G h Q = wp d 211 1337 [l0, l1, l2, l3] st G h Q := x_ict (x = y) (tst_eq x y) rfl rfl hx
set_option maxRecDepth 100000 in
theorem X_211_713_f {d : Nat} {l0 l1 l2 l3 : Option AV} {st : List AV} {x y : Int} {G : AG} {h : AH} {Q : Option AV → AG → AH → Prop} (hx : (((-2147483648 ≤ x ∧ x < 2147483648) ∧ (-2147483648 ≤ y ∧ y < 2147483648)) ∨ x = y) ∧ ¬ (x = y)) : wp d 211 713 [l0, l1, l2, l3] (.inl y :: .inl x :: st) G h Q = wp d 211 716 [l0, l1, l2, l3] st G h Q := x_icf (x = y) (tst_eq x y) (tgt := 1337) rfl rfl hx
set_option maxRecDepth 100000 in
theorem X_211_716 {d : Nat} {l0 l1 l2 l3 : Option AV} {st : List AV} {G : AG} {h : AH} {Q : Option AV → AG → AH → Prop} : wp d 211 716 [l0, l1, l2, l3] st G h Q = wp d 211 717 [l0, l1, l2, l3] (.inl 0 :: st) G h Q := wp_nx rfl
set_option maxRecDepth 100000 in
theorem X_211_717 {d : Nat} {l0 l1 l2 l3 : Option AV} {x : Int} {G : AG} {h : AH} {Q : Option AV → AG → AH → Prop} (hx : x = 0 ∨ x = 1) : wp d 211 717 [l0, l1, l2, l3] [.inl x] G h Q = Q (some (.inl x)) G h := x_retZ rfl hx
set_option maxRecDepth 100000 in
theorem X_211_718 {d : Nat} {l0 l2 l3 : Option AV} {st : List AV} {x : Nat} {G : AG} {h : AH} {Q : Option AV → AG → AH → Prop} : wp d 211 718 [l0, some (.inr (.inr (some x))), l2, l3] st G h Q = wp d 211 719 [l0, some (.inr (.inr (some x))), l2, l3] (.inr (.inr (some x)) :: st) G h Q := wp_nx rfl
set_option maxRecDepth 100000 in
theorem X_211_719 {d : Nat} {l1 l2 l3 : Option AV} {st : List AV} {x : Nat} {G : AG} {h : AH} {Q : Option AV → AG → AH → Prop} : wp d 211 719 [some (.inr (.inr (some x))), l1, l2, l3] st G h Q = wp d 211 720 [some (.inr (.inr (some x))), l1, l2, l3] (.inr (.inr (some x)) :: st) G h Q := wp_nx rfl
set_option maxRecDepth 100000 in
theorem X_211_720 {d : Nat} {l0 l1 l2 : Option AV} {st : List AV} {x : Int} {G : AG} {h : AH} {Q : Option AV → AG → AH → Prop} : wp d 211 720 [l0, l1, l2, some (.inl x)] st G h Q = wp d 211 721 [l0, l1, l2, some (.inl x)] (.inl x :: st) G h Q := wp_nx rfl
set_option maxRecDepth 100000 in
theorem X_211_721 {d : Nat} {l0 l1 l2 l3 : Option AV} {st : List AV} {G : AG} {h : AH} {Q : Option AV → AG → AH → Prop} : wp d 211 721 [l0, l1, l2, l3] st G h Q = wp d 211 722 [l0, l1, l2, l3] (.inl 1 :: st) G h Q := wp_nx rfl
set_option maxRecDepth 100000 in
theorem X_211_722 {d : Nat} {l0 l1 l2 l3 : Option AV} {st : List AV} {x y : Int} {G : AG} {h : AH} {Q : Option AV → AG → AH → Prop} : wp d 211 722 [l0, l1, l2, l3] (.inl y :: .inl x :: st) G h Q = wp d 211 723 [l0, l1, l2, l3] (.inl (x + y) :: st) G h Q := wp_nx rfl
set_option maxRecDepth 100000 in
theorem X_211_723 {d : Nat} {l0 l1 l2 l3 : Option AV} {st : List AV} {i : Int} {G : AG} {h : AH} {Q : Option AV → AG → AH → Prop} (hk : 0 ≤ i ∧ i < h 1002 0 ∧ h 1002 0 ≤ 100000) : wp d 211 723 [l0, l1, l2, l3] (.inl i :: .inr (.inr (some 1001)) :: st) G h Q = wp d 211 724 [l0, l1, l2, l3] (.inl (h 1001 i.toNat) :: st) G h Q := x_scr rfl hk
set_option maxRecDepth 100000 in
theorem X_211_724 {d : Nat} {l0 l1 l2 l3 : Option AV} {o : Nat} {a1 : AV} {G : AG} {h : AH} {Q : Option AV → AG → AH → Prop} (hk : (shp G o).1 = 6 ∧ (shp G o).2 = 13) : wp d 211 724 [l0, l1, l2, l3] (a1 :: .inr (.inr (some o)) :: []) G h Q = call d 55 [.inr (.inr (some o)), a1] G h (fun r G2 h2 => wp d 211 727 [l0, l1, l2, l3] (pushR r []) G2 h2 Q) := x_inv (virt := 2) (as := [.inr (.inr (some o)), a1]) (rest := []) rfl rfl rfl (Nat.le_of_ble_eq_true rfl) (rcv_ok hk)
set_option maxRecDepth 100000 in
theorem X_211_727 {d : Nat} {l0 l1 l3 : Option AV} {st : List AV} {x : Nat} {G : AG} {h : AH} {Q : Option AV → AG → AH → Prop} : wp d 211 727 [l0, l1, some (.inr (.inr (some x))), l3] st G h Q = wp d 211 728 [l0, l1, some (.inr (.inr (some x))), l3] (.inr (.inr (some x)) :: st) G h Q := wp_nx rfl
set_option maxRecDepth 100000 in
theorem X_211_728 {d : Nat} {l1 l2 l3 : Option AV} {st : List AV} {x : Nat} {G : AG} {h : AH} {Q : Option AV → AG → AH → Prop} : wp d 211 728 [some (.inr (.inr (some x))), l1, l2, l3] st G h Q = wp d 211 729 [some (.inr (.inr (some x))), l1, l2, l3] (.inr (.inr (some x)) :: st) G h Q := wp_nx rfl
set_option maxRecDepth 100000 in
theorem X_211_729 {d : Nat} {l0 l1 l2 : Option AV} {st : List AV} {x : Int} {G : AG} {h : AH} {Q : Option AV → AG → AH → Prop} : wp d 211 729 [l0, l1, l2, some (.inl x)] st G h Q = wp d 211 730 [l0, l1, l2, some (.inl x)] (.inl x :: st) G h Q := wp_nx rfl
set_option maxRecDepth 100000 in
theorem X_211_730 {d : Nat} {l0 l1 l2 l3 : Option AV} {st : List AV} {G : AG} {h : AH} {Q : Option AV → AG → AH → Prop} : wp d 211 730 [l0, l1, l2, l3] st G h Q = wp d 211 731 [l0, l1, l2, l3] (.inl 1 :: st) G h Q := wp_nx rfl
set_option maxRecDepth 100000 in
theorem X_211_731 {d : Nat} {l0 l1 l2 l3 : Option AV} {st : List AV} {x y : Int} {G : AG} {h : AH} {Q : Option AV → AG → AH → Prop} : wp d 211 731 [l0, l1, l2, l3] (.inl y :: .inl x :: st) G h Q = wp d 211 732 [l0, l1, l2, l3] (.inl (x + y) :: st) G h Q := wp_nx rfl
set_option maxRecDepth 100000 in
theorem X_211_732 {d : Nat} {l0 l1 l2 l3 : Option AV} {st : List AV} {i : Int} {G : AG} {h : AH} {Q : Option AV → AG → AH → Prop} (hk : 0 ≤ i ∧ i < h 1002 0 ∧ h 1002 0 ≤ 100000) : wp d 211 732 [l0, l1, l2, l3] (.inl i :: .inr (.inr (some 1001)) :: st) G h Q = wp d 211 733 [l0, l1, l2, l3] (.inl (h 1001 i.toNat) :: st) G h Q := x_scr rfl hk
set_option maxRecDepth 100000 in
theorem X_211_733 {d : Nat} {l0 l1 l2 l3 : Option AV} {o : Nat} {a1 : AV} {s0 : AV} {G : AG} {h : AH} {Q : Option AV → AG → AH → Prop} (hk : (shp G o).1 = 7 ∧ (shp G o).2 = 20) : wp d 211 733 [l0, l1, l2, l3] (a1 :: .inr (.inr (some o)) :: [s0]) G h Q = call d 162 [.inr (.inr (some o)), a1] G h (fun r G2 h2 => wp d 211 736 [l0, l1, l2, l3] (pushR r [s0]) G2 h2 Q) := x_inv (virt := 3) (as := [.inr (.inr (some o)), a1]) (rest := [s0]) rfl rfl rfl (Nat.le_of_ble_eq_true rfl) (rcv_ok hk)
set_option maxRecDepth 100000 in
theorem X_211_736 {d : Nat} {l0 l1 l2 l3 : Option AV} {st : List AV} {x y : Int} {G : AG} {h : AH} {Q : Option AV → AG → AH → Prop} (hx : (((-2147483648 ≤ x ∧ x < 2147483648) ∧ (-2147483648 ≤ y ∧ y < 2147483648)) ∨ x = y)) : wp d 211 736 [l0, l1, l2, l3] (.inl y :: .inl x :: st) G h Q = if x = y then wp d 211 1337 [l0, l1, l2, l3] st G h Q else wp d 211 739 [l0, l1, l2, l3] st G h Q := x_icc (x = y) (tst_eq x y) rfl rfl hx
set_option maxRecDepth 100000 in
theorem X_211_736_t {d : Nat} {l0 l1 l2 l3 : Option AV} {st : List AV} {x y : Int} {G : AG} {h : AH} {Q : Option AV → AG → AH → Prop} (hx : (((-2147483648 ≤ x ∧ x < 2147483648) ∧ (-2147483648 ≤ y ∧ y < 2147483648)) ∨ x = y) ∧ x = y) : wp d 211 736 [l0, l1, l2, l3] (.inl y :: .inl x :: st) G h Q = wp d 211 1337 [l0, l1, l2, l3] st G h Q := x_ict (x = y) (tst_eq x y) rfl rfl hx
set_option maxRecDepth 100000 in
theorem X_211_736_f {d : Nat} {l0 l1 l2 l3 : Option AV} {st : List AV} {x y : Int} {G : AG} {h : AH} {Q : Option AV → AG → AH → Prop} (hx : (((-2147483648 ≤ x ∧ x < 2147483648) ∧ (-2147483648 ≤ y ∧ y < 2147483648)) ∨ x = y) ∧ ¬ (x = y)) : wp d 211 736 [l0, l1, l2, l3] (.inl y :: .inl x :: st) G h Q = wp d 211 739 [l0, l1, l2, l3] st G h Q := x_icf (x = y) (tst_eq x y) (tgt := 1337) rfl rfl hx
set_option maxRecDepth 100000 in
theorem X_211_739 {d : Nat} {l0 l1 l2 l3 : Option AV} {st : List AV} {G : AG} {h : AH} {Q : Option AV → AG → AH → Prop} : wp d 211 739 [l0, l1, l2, l3] st G h Q = wp d 211 740 [l0, l1, l2, l3] (.inl 0 :: st) G h Q := wp_nx rfl
set_option maxRecDepth 100000 in
theorem X_211_740 {d : Nat} {l0 l1 l2 l3 : Option AV} {x : Int} {G : AG} {h : AH} {Q : Option AV → AG → AH → Prop} (hx : x = 0 ∨ x = 1) : wp d 211 740 [l0, l1, l2, l3] [.inl x] G h Q = Q (some (.inl x)) G h := x_retZ rfl hx
set_option maxRecDepth 100000 in
theorem X_211_741 {d : Nat} {l0 l2 l3 : Option AV} {st : List AV} {x : Nat} {G : AG} {h : AH} {Q : Option AV → AG → AH → Prop} : wp d 211 741 [l0, some (.inr (.inr (some x))), l2, l3] st G h Q = wp d 211 742 [l0, some (.inr (.inr (some x))), l2, l3] (.inr (.inr (some x)) :: st) G h Q := wp_nx rfl
set_option maxRecDepth 100000 in
theorem X_211_742 {d : Nat} {l1 l2 l3 : Option AV} {st : List AV} {x : Nat} {G : AG} {h : AH} {Q : Option AV → AG → AH → Prop} : wp d 211 742 [some (.inr (.inr (some x))), l1, l2, l3] st G h Q = wp d 211 743 [some (.inr (.inr (some x))), l1, l2, l3] (.inr (.inr (some x)) :: st) G h Q := wp_nx rfl
set_option maxRecDepth 100000 in
theorem X_211_743 {d : Nat} {l0 l1 l2 : Option AV} {st : List AV} {x : Int} {G : AG} {h : AH} {Q : Option AV → AG → AH → Prop} : wp d 211 743 [l0, l1, l2, some (.inl x)] st G h Q = wp d 211 744 [l0, l1, l2, some (.inl x)] (.inl x :: st) G h Q := wp_nx rfl
set_option maxRecDepth 100000 in
theorem X_211_744 {d : Nat} {l0 l1 l2 l3 : Option AV} {st : List AV} {G : AG} {h : AH} {Q : Option AV → AG → AH → Prop} : wp d 211 744 [l0, l1, l2, l3] st G h Q = wp d 211 745 [l0, l1, l2, l3] (.inl 1 :: st) G h Q := wp_nx rfl
set_option maxRecDepth 100000 in
theorem X_211_745 {d : Nat} {l0 l1 l2 l3 : Option AV} {st : List AV} {x y : Int} {G : AG} {h : AH} {Q : Option AV → AG → AH → Prop} : wp d 211 745 [l0, l1, l2, l3] (.inl y :: .inl x :: st) G h Q = wp d 211 746 [l0, l1, l2, l3] (.inl (x + y) :: st) G h Q := wp_nx rfl
set_option maxRecDepth 100000 in
theorem X_211_746 {d : Nat} {l0 l1 l2 l3 : Option AV} {st : List AV} {i : Int} {G : AG} {h : AH} {Q : Option AV → AG → AH → Prop} (hk : 0 ≤ i ∧ i < h 1002 0 ∧ h 1002 0 ≤ 100000) : wp d 211 746 [l0, l1, l2, l3] (.inl i :: .inr (.inr (some 1001)) :: st) G h Q = wp d 211 747 [l0, l1, l2, l3] (.inl (h 1001 i.toNat) :: st) G h Q := x_scr rfl hk
set_option maxRecDepth 100000 in
theorem X_211_747 {d : Nat} {l0 l1 l2 l3 : Option AV} {o : Nat} {a1 : AV} {G : AG} {h : AH} {Q : Option AV → AG → AH → Prop} (hk : (shp G o).1 = 6 ∧ (shp G o).2 = 13) : wp d 211 747 [l0, l1, l2, l3] (a1 :: .inr (.inr (some o)) :: []) G h Q = call d 56 [.inr (.inr (some o)), a1] G h (fun r G2 h2 => wp d 211 750 [l0, l1, l2, l3] (pushR r []) G2 h2 Q) := x_inv (virt := 2) (as := [.inr (.inr (some o)), a1]) (rest := []) rfl rfl rfl (Nat.le_of_ble_eq_true rfl) (rcv_ok hk)
set_option maxRecDepth 100000 in
theorem X_211_750 {d : Nat} {l0 l1 l3 : Option AV} {st : List AV} {x : Nat} {G : AG} {h : AH} {Q : Option AV → AG → AH → Prop} : wp d 211 750 [l0, l1, some (.inr (.inr (some x))), l3] st G h Q = wp d 211 751 [l0, l1, some (.inr (.inr (some x))), l3] (.inr (.inr (some x)) :: st) G h Q := wp_nx rfl
set_option maxRecDepth 100000 in
theorem X_211_751 {d : Nat} {l1 l2 l3 : Option AV} {st : List AV} {x : Nat} {G : AG} {h : AH} {Q : Option AV → AG → AH → Prop} : wp d 211 751 [some (.inr (.inr (some x))), l1, l2, l3] st G h Q = wp d 211 752 [some (.inr (.inr (some x))), l1, l2, l3] (.inr (.inr (some x)) :: st) G h Q := wp_nx rfl
set_option maxRecDepth 100000 in
theorem X_211_752 {d : Nat} {l0 l1 l2 : Option AV} {st : List AV} {x : Int} {G : AG} {h : AH} {Q : Option AV → AG → AH → Prop} : wp d 211 752 [l0, l1, l2, some (.inl x)] st G h Q = wp d 211 753 [l0, l1, l2, some (.inl x)] (.inl x :: st) G h Q := wp_nx rfl
set_option maxRecDepth 100000 in
theorem X_211_753 {d : Nat} {l0 l1 l2 l3 : Option AV} {st : List AV} {G : AG} {h : AH} {Q : Option AV → AG → AH → Prop} : wp d 211 753 [l0, l1, l2, l3] st G h Q = wp d 211 754 [l0, l1, l2, l3] (.inl 1 :: st) G h Q := wp_nx rfl
set_option maxRecDepth 100000 in
theorem X_211_754 {d : Nat} {l0 l1 l2 l3 : Option AV} {st : List AV} {x y : Int} {G : AG} {h : AH} {Q : Option AV → AG → AH → Prop} : wp d 211 754 [l0, l1, l2, l3] (.inl y :: .inl x :: st) G h Q = wp d 211 755 [l0, l1, l2, l3] (.inl (x + y) :: st) G h Q := wp_nx rfl
set_option maxRecDepth 100000 in
theorem X_211_755 {d : Nat} {l0 l1 l2 l3 : Option AV} {st : List AV} {i : Int} {G : AG} {h : AH} {Q : Option AV → AG → AH → Prop} (hk : 0 ≤ i ∧ i < h 1002 0 ∧ h 1002 0 ≤ 100000) : wp d 211 755 [l0, l1, l2, l3] (.inl i :: .inr (.inr (some 1001)) :: st) G h Q = wp d 211 756 [l0, l1, l2, l3] (.inl (h 1001 i.toNat) :: st) G h Q := x_scr rfl hk
set_option maxRecDepth 100000 in
theorem X_211_756 {d : Nat} {l0 l1 l2 l3 : Option AV} {o : Nat} {a1 : AV} {s0 : AV} {G : AG} {h : AH} {Q : Option AV → AG → AH → Prop} (hk : (shp G o).1 = 7 ∧ (shp G o).2 = 20) : wp d 211 756 [l0, l1, l2, l3] (a1 :: .inr (.inr (some o)) :: [s0]) G h Q = call d 163 [.inr (.inr (some o)), a1] G h (fun r G2 h2 => wp d 211 759 [l0, l1, l2, l3] (pushR r [s0]) G2 h2 Q) := x_inv (virt := 3) (as := [.inr (.inr (some o)), a1]) (rest := [s0]) rfl rfl rfl (Nat.le_of_ble_eq_true rfl) (rcv_ok hk)
set_option maxRecDepth 100000 in
theorem X_211_759 {d : Nat} {l0 l1 l2 l3 : Option AV} {st : List AV} {x y : Int} {G : AG} {h : AH} {Q : Option AV → AG → AH → Prop} (hx : (((-2147483648 ≤ x ∧ x < 2147483648) ∧ (-2147483648 ≤ y ∧ y < 2147483648)) ∨ x = y)) : wp d 211 759 [l0, l1, l2, l3] (.inl y :: .inl x :: st) G h Q = if x = y then wp d 211 1337 [l0, l1, l2, l3] st G h Q else wp d 211 762 [l0, l1, l2, l3] st G h Q := x_icc (x = y) (tst_eq x y) rfl rfl hx
set_option maxRecDepth 100000 in
theorem X_211_759_t {d : Nat} {l0 l1 l2 l3 : Option AV} {st : List AV} {x y : Int} {G : AG} {h : AH} {Q : Option AV → AG → AH → Prop} (hx : (((-2147483648 ≤ x ∧ x < 2147483648) ∧ (-2147483648 ≤ y ∧ y < 2147483648)) ∨ x = y) ∧ x = y) : wp d 211 759 [l0, l1, l2, l3] (.inl y :: .inl x :: st) G h Q = wp d 211 1337 [l0, l1, l2, l3] st G h Q := x_ict (x = y) (tst_eq x y) rfl rfl hx
set_option maxRecDepth 100000 in
theorem X_211_759_f {d : Nat} {l0 l1 l2 l3 : Option AV} {st : List AV} {x y : Int} {G : AG} {h : AH} {Q : Option AV → AG → AH → Prop} (hx : (((-2147483648 ≤ x ∧ x < 2147483648) ∧ (-2147483648 ≤ y ∧ y < 2147483648)) ∨ x = y) ∧ ¬ (x = y)) : wp d 211 759 [l0, l1, l2, l3] (.inl y :: .inl x :: st) G h Q = wp d 211 762 [l0, l1, l2, l3] st G h Q := x_icf (x = y) (tst_eq x y) (tgt := 1337) rfl rfl hx
set_option maxRecDepth 100000 in
theorem X_211_762 {d : Nat} {l0 l1 l2 l3 : Option AV} {st : List AV} {G : AG} {h : AH} {Q : Option AV → AG → AH → Prop} : wp d 211 762 [l0, l1, l2, l3] st G h Q = wp d 211 763 [l0, l1, l2, l3] (.inl 0 :: st) G h Q := wp_nx rfl
set_option maxRecDepth 100000 in
theorem X_211_763 {d : Nat} {l0 l1 l2 l3 : Option AV} {x : Int} {G : AG} {h : AH} {Q : Option AV → AG → AH → Prop} (hx : x = 0 ∨ x = 1) : wp d 211 763 [l0, l1, l2, l3] [.inl x] G h Q = Q (some (.inl x)) G h := x_retZ rfl hx
set_option maxRecDepth 100000 in
theorem X_211_764 {d : Nat} {l0 l2 l3 : Option AV} {st : List AV} {x : Nat} {G : AG} {h : AH} {Q : Option AV → AG → AH → Prop} : wp d 211 764 [l0, some (.inr (.inr (some x))), l2, l3] st G h Q = wp d 211 765 [l0, some (.inr (.inr (some x))), l2, l3] (.inr (.inr (some x)) :: st) G h Q := wp_nx rfl
set_option maxRecDepth 100000 in
theorem X_211_765 {d : Nat} {l1 l2 l3 : Option AV} {st : List AV} {x : Nat} {G : AG} {h : AH} {Q : Option AV → AG → AH → Prop} : wp d 211 765 [some (.inr (.inr (some x))), l1, l2, l3] st G h Q = wp d 211 766 [some (.inr (.inr (some x))), l1, l2, l3] (.inr (.inr (some x)) :: st) G h Q := wp_nx rfl
set_option maxRecDepth 100000 in
theorem X_211_766 {d : Nat} {l0 l1 l2 : Option AV} {st : List AV} {x : Int} {G : AG} {h : AH} {Q : Option AV → AG → AH → Prop} : wp d 211 766 [l0, l1, l2, some (.inl x)] st G h Q = wp d 211 767 [l0, l1, l2, some (.inl x)] (.inl x :: st) G h Q := wp_nx rfl
set_option maxRecDepth 100000 in
theorem X_211_767 {d : Nat} {l0 l1 l2 l3 : Option AV} {st : List AV} {G : AG} {h : AH} {Q : Option AV → AG → AH → Prop} : wp d 211 767 [l0, l1, l2, l3] st G h Q = wp d 211 768 [l0, l1, l2, l3] (.inl 1 :: st) G h Q := wp_nx rfl
set_option maxRecDepth 100000 in
theorem X_211_768 {d : Nat} {l0 l1 l2 l3 : Option AV} {st : List AV} {x y : Int} {G : AG} {h : AH} {Q : Option AV → AG → AH → Prop} : wp d 211 768 [l0, l1, l2, l3] (.inl y :: .inl x :: st) G h Q = wp d 211 769 [l0, l1, l2, l3] (.inl (x + y) :: st) G h Q := wp_nx rfl
set_option maxRecDepth 100000 in
theorem X_211_769 {d : Nat} {l0 l1 l2 l3 : Option AV} {st : List AV} {i : Int} {G : AG} {h : AH} {Q : Option AV → AG → AH → Prop} (hk : 0 ≤ i ∧ i < h 1002 0 ∧ h 1002 0 ≤ 100000) : wp d 211 769 [l0, l1, l2, l3] (.inl i :: .inr (.inr (some 1001)) :: st) G h Q = wp d 211 770 [l0, l1, l2, l3] (.inl (h 1001 i.toNat) :: st) G h Q := x_scr rfl hk
set_option maxRecDepth 100000 in
theorem X_211_770 {d : Nat} {l1 l2 l3 : Option AV} {st : List AV} {x : Nat} {G : AG} {h : AH} {Q : Option AV → AG → AH → Prop} : wp d 211 770 [some (.inr (.inr (some x))), l1, l2, l3] st G h Q = wp d 211 771 [some (.inr (.inr (some x))), l1, l2, l3] (.inr (.inr (some x)) :: st) G h Q := wp_nx rfl
set_option maxRecDepth 100000 in
theorem X_211_771 {d : Nat} {l0 l1 l2 : Option AV} {st : List AV} {x : Int} {G : AG} {h : AH} {Q : Option AV → AG → AH → Prop} : wp d 211 771 [l0, l1, l2, some (.inl x)] st G h Q = wp d 211 772 [l0, l1, l2, some (.inl x)] (.inl x :: st) G h Q := wp_nx rfl
set_option maxRecDepth 100000 in
theorem X_211_772 {d : Nat} {l0 l1 l2 l3 : Option AV} {st : List AV} {G : AG} {h : AH} {Q : Option AV → AG → AH → Prop} : wp d 211 772 [l0, l1, l2, l3] st G h Q = wp d 211 773 [l0, l1, l2, l3] (.inl 2 :: st) G h Q := wp_nx rfl
set_option maxRecDepth 100000 in
theorem X_211_773 {d : Nat} {l0 l1 l2 l3 : Option AV} {st : List AV} {x y : Int} {G : AG} {h : AH} {Q : Option AV → AG → AH → Prop} : wp d 211 773 [l0, l1, l2, l3] (.inl y :: .inl x :: st) G h Q = wp d 211 774 [l0, l1, l2, l3] (.inl (x + y) :: st) G h Q := wp_nx rfl
set_option maxRecDepth 100000 in
theorem X_211_774 {d : Nat} {l0 l1 l2 l3 : Option AV} {st : List AV} {i : Int} {G : AG} {h : AH} {Q : Option AV → AG → AH → Prop} (hk : 0 ≤ i ∧ i < h 1002 0 ∧ h 1002 0 ≤ 100000) : wp d 211 774 [l0, l1, l2, l3] (.inl i :: .inr (.inr (some 1001)) :: st) G h Q = wp d 211 775 [l0, l1, l2, l3] (.inl (h 1001 i.toNat) :: st) G h Q := x_scr rfl hk
set_option maxRecDepth 100000 in
theorem X_211_775 {d : Nat} {l1 l2 l3 : Option AV} {st : List AV} {x : Nat} {G : AG} {h : AH} {Q : Option AV → AG → AH → Prop} : wp d 211 775 [some (.inr (.inr (some x))), l1, l2, l3] st G h Q = wp d 211 776 [some (.inr (.inr (some x))), l1, l2, l3] (.inr (.inr (some x)) :: st) G h Q := wp_nx rfl
set_option maxRecDepth 100000 in
theorem X_211_776 {d : Nat} {l0 l1 l2 : Option AV} {st : List AV} {x : Int} {G : AG} {h : AH} {Q : Option AV → AG → AH → Prop} : wp d 211 776 [l0, l1, l2, some (.inl x)] st G h Q = wp d 211 777 [l0, l1, l2, some (.inl x)] (.inl x :: st) G h Q := wp_nx rfl
set_option maxRecDepth 100000 in
theorem X_211_777 {d : Nat} {l0 l1 l2 l3 : Option AV} {st : List AV} {G : AG} {h : AH} {Q : Option AV → AG → AH → Prop} : wp d 211 777 [l0, l1, l2, l3] st G h Q = wp d 211 778 [l0, l1, l2, l3] (.inl 3 :: st) G h Q := wp_nx rfl
set_option maxRecDepth 100000 in
theorem X_211_778 {d : Nat} {l0 l1 l2 l3 : Option AV} {st : List AV} {x y : Int} {G : AG} {h : AH} {Q : Option AV → AG → AH → Prop} : wp d 211 778 [l0, l1, l2, l3] (.inl y :: .inl x :: st) G h Q = wp d 211 779 [l0, l1, l2, l3] (.inl (x + y) :: st) G h Q := wp_nx rfl
set_option maxRecDepth 100000 in
theorem X_211_779 {d : Nat} {l0 l1 l2 l3 : Option AV} {st : List AV} {i : Int} {G : AG} {h : AH} {Q : Option AV → AG → AH → Prop} (hk : 0 ≤ i ∧ i < h 1002 0 ∧ h 1002 0 ≤ 100000) : wp d 211 779 [l0, l1, l2, l3] (.inl i :: .inr (.inr (some 1001)) :: st) G h Q = wp d 211 780 [l0, l1, l2, l3] (.inl (h 1001 i.toNat) :: st) G h Q := x_scr rfl hk
set_option maxRecDepth 100000 in
theorem X_211_780 {d : Nat} {l1 l2 l3 : Option AV} {st : List AV} {x : Nat} {G : AG} {h : AH} {Q : Option AV → AG → AH → Prop} : wp d 211 780 [some (.inr (.inr (some x))), l1, l2, l3] st G h Q = wp d 211 781 [some (.inr (.inr (some x))), l1, l2, l3] (.inr (.inr (some x)) :: st) G h Q := wp_nx rfl
set_option maxRecDepth 100000 in
theorem X_211_781 {d : Nat} {l0 l1 l2 : Option AV} {st : List AV} {x : Int} {G : AG} {h : AH} {Q : Option AV → AG → AH → Prop} : wp d 211 781 [l0, l1, l2, some (.inl x)] st G h Q = wp d 211 782 [l0, l1, l2, some (.inl x)] (.inl x :: st) G h Q := wp_nx rfl
set_option maxRecDepth 100000 in
theorem X_211_782 {d : Nat} {l0 l1 l2 l3 : Option AV} {st : List AV} {G : AG} {h : AH} {Q : Option AV → AG → AH → Prop} : wp d 211 782 [l0, l1, l2, l3] st G h Q = wp d 211 783 [l0, l1, l2, l3] (.inl 4 :: st) G h Q := wp_nx rfl
set_option maxRecDepth 100000 in
theorem X_211_783 {d : Nat} {l0 l1 l2 l3 : Option AV} {st : List AV} {x y : Int} {G : AG} {h : AH} {Q : Option AV → AG → AH → Prop} : wp d 211 783 [l0, l1, l2, l3] (.inl y :: .inl x :: st) G h Q = wp d 211 784 [l0, l1, l2, l3] (.inl (x + y) :: st) G h Q := wp_nx rfl
set_option maxRecDepth 100000 in
theorem X_211_784 {d : Nat} {l0 l1 l2 l3 : Option AV} {st : List AV} {i : Int} {G : AG} {h : AH} {Q : Option AV → AG → AH → Prop} (hk : 0 ≤ i ∧ i < h 1002 0 ∧ h 1002 0 ≤ 100000) : wp d 211 784 [l0, l1, l2, l3] (.inl i :: .inr (.inr (some 1001)) :: st) G h Q = wp d 211 785 [l0, l1, l2, l3] (.inl (h 1001 i.toNat) :: st) G h Q := x_scr rfl hk
set_option maxRecDepth 100000 in
theorem X_211_785 {d : Nat} {l0 l1 l2 l3 : Option AV} {o : Nat} {a1 a2 a3 a4 : AV} {G : AG} {h : AH} {Q : Option AV → AG → AH → Prop} (hk : (shp G o).1 = 6 ∧ (shp G o).2 = 13) : wp d 211 785 [l0, l1, l2, l3] (a4 :: a3 :: a2 :: a1 :: .inr (.inr (some o)) :: []) G h Q = call d 57 [.inr (.inr (some o)), a1, a2, a3, a4] G h (fun r G2 h2 => wp d 211 788 [l0, l1, l2, l3] (pushR r []) G2 h2 Q) := x_inv (virt := 2) (as := [.inr (.inr (some o)), a1, a2, a3, a4]) (rest := []) rfl rfl rfl (Nat.le_of_ble_eq_true rfl) (rcv_ok hk)
set_option maxRecDepth 100000 in
theorem X_211_788 {d : Nat} {l0 l1 l3 : Option AV} {st : List AV} {x : Nat} {G : AG} {h : AH} {Q : Option AV → AG → AH → Prop} : wp d 211 788 [l0, l1, some (.inr (.inr (some x))), l3] st G h Q = wp d 211 789 [l0, l1, some (.inr (.inr (some x))), l3] (.inr (.inr (some x)) :: st) G h Q := wp_nx rfl
set_option maxRecDepth 100000 in
theorem X_211_789 {d : Nat} {l1 l2 l3 : Option AV} {st : List AV} {x : Nat} {G : AG} {h : AH} {Q : Option AV → AG → AH → Prop} : wp d 211 789 [some (.inr (.inr (some x))), l1, l2, l3] st G h Q = wp d 211 790 [some (.inr (.inr (some x))), l1, l2, l3] (.inr (.inr (some x)) :: st) G h Q := wp_nx rfl
set_option maxRecDepth 100000 in
theorem X_211_790 {d : Nat} {l0 l1 l2 : Option AV} {st : List AV} {x : Int} {G : AG} {h : AH} {Q : Option AV → AG → AH → Prop} : wp d 211 790 [l0, l1, l2, some (.inl x)] st G h Q = wp d 211 791 [l0, l1, l2, some (.inl x)] (.inl x :: st) G h Q := wp_nx rfl
set_option maxRecDepth 100000 in
theorem X_211_791 {d : Nat} {l0 l1 l2 l3 : Option AV} {st : List AV} {G : AG} {h : AH} {Q : Option AV → AG → AH → Prop} : wp d 211 791 [l0, l1, l2, l3] st G h Q = wp d 211 792 [l0, l1, l2, l3] (.inl 1 :: st) G h Q := wp_nx rfl
set_option maxRecDepth 100000 in
theorem X_211_792 {d : Nat} {l0 l1 l2 l3 : Option AV} {st : List AV} {x y : Int} {G : AG} {h : AH} {Q : Option AV → AG → AH → Prop} : wp d 211 792 [l0, l1, l2, l3] (.inl y :: .inl x :: st) G h Q = wp d 211 793 [l0, l1, l2, l3] (.inl (x + y) :: st) G h Q := wp_nx rfl
set_option maxRecDepth 100000 in
theorem X_211_793 {d : Nat} {l0 l1 l2 l3 : Option AV} {st : List AV} {i : Int} {G : AG} {h : AH} {Q : Option AV → AG → AH → Prop} (hk : 0 ≤ i ∧ i < h 1002 0 ∧ h 1002 0 ≤ 100000) : wp d 211 793 [l0, l1, l2, l3] (.inl i :: .inr (.inr (some 1001)) :: st) G h Q = wp d 211 794 [l0, l1, l2, l3] (.inl (h 1001 i.toNat) :: st) G h Q := x_scr rfl hk
set_option maxRecDepth 100000 in
theorem X_211_794 {d : Nat} {l1 l2 l3 : Option AV} {st : List AV} {x : Nat} {G : AG} {h : AH} {Q : Option AV → AG → AH → Prop} : wp d 211 794 [some (.inr (.inr (some x))), l1, l2, l3] st G h Q = wp d 211 795 [some (.inr (.inr (some x))), l1, l2, l3] (.inr (.inr (some x)) :: st) G h Q := wp_nx rfl
set_option maxRecDepth 100000 in
theorem X_211_795 {d : Nat} {l0 l1 l2 : Option AV} {st : List AV} {x : Int} {G : AG} {h : AH} {Q : Option AV → AG → AH → Prop} : wp d 211 795 [l0, l1, l2, some (.inl x)] st G h Q = wp d 211 796 [l0, l1, l2, some (.inl x)] (.inl x :: st) G h Q := wp_nx rfl
set_option maxRecDepth 100000 in
theorem X_211_796 {d : Nat} {l0 l1 l2 l3 : Option AV} {st : List AV} {G : AG} {h : AH} {Q : Option AV → AG → AH → Prop} : wp d 211 796 [l0, l1, l2, l3] st G h Q = wp d 211 797 [l0, l1, l2, l3] (.inl 2 :: st) G h Q := wp_nx rfl
set_option maxRecDepth 100000 in
theorem X_211_797 {d : Nat} {l0 l1 l2 l3 : Option AV} {st : List AV} {x y : Int} {G : AG} {h : AH} {Q : Option AV → AG → AH → Prop} : wp d 211 797 [l0, l1, l2, l3] (.inl y :: .inl x :: st) G h Q = wp d 211 798 [l0, l1, l2, l3] (.inl (x + y) :: st) G h Q := wp_nx rfl
set_option maxRecDepth 100000 in
theorem X_211_798 {d : Nat} {l0 l1 l2 l3 : Option AV} {st : List AV} {i : Int} {G : AG} {h : AH} {Q : Option AV → AG → AH → Prop} (hk : 0 ≤ i ∧ i < h 1002 0 ∧ h 1002 0 ≤ 100000) : wp d 211 798 [l0, l1, l2, l3] (.inl i :: .inr (.inr (some 1001)) :: st) G h Q = wp d 211 799 [l0, l1, l2, l3] (.inl (h 1001 i.toNat) :: st) G h Q := x_scr rfl hk
set_option maxRecDepth 100000 in
theorem X_211_799 {d : Nat} {l1 l2 l3 : Option AV} {st : List AV} {x : Nat} {G : AG} {h : AH} {Q : Option AV → AG → AH → Prop} : wp d 211 799 [some (.inr (.inr (some x))), l1, l2, l3] st G h Q = wp d 211 800 [some (.inr (.inr (some x))), l1, l2, l3] (.inr (.inr (some x)) :: st) G h Q := wp_nx rfl
set_option maxRecDepth 100000 in
theorem X_211_800 {d : Nat} {l0 l1 l2 : Option AV} {st : List AV} {x : Int} {G : AG} {h : AH} {Q : Option AV → AG → AH → Prop} : wp d 211 800 [l0, l1, l2, some (.inl x)] st G h Q = wp d 211 801 [l0, l1, l2, some (.inl x)] (.inl x :: st) G h Q := wp_nx rfl
set_option maxRecDepth 100000 in
theorem X_211_801 {d : Nat} {l0 l1 l2 l3 : Option AV} {st : List AV} {G : AG} {h : AH} {Q : Option AV → AG → AH → Prop} : wp d 211 801 [l0, l1, l2, l3] st G h Q = wp d 211 802 [l0, l1, l2, l3] (.inl 3 :: st) G h Q := wp_nx rfl
set_option maxRecDepth 100000 in
theorem X_211_802 {d : Nat} {l0 l1 l2 l3 : Option AV} {st : List AV} {x y : Int} {G : AG} {h : AH} {Q : Option AV → AG → AH → Prop} : wp d 211 802 [l0, l1, l2, l3] (.inl y :: .inl x :: st) G h Q = wp d 211 803 [l0, l1, l2, l3] (.inl (x + y) :: st) G h Q := wp_nx rfl
set_option maxRecDepth 100000 in
theorem X_211_803 {d : Nat} {l0 l1 l2 l3 : Option AV} {st : List AV} {i : Int} {G : AG} {h : AH} {Q : Option AV → AG → AH → Prop} (hk : 0 ≤ i ∧ i < h 1002 0 ∧ h 1002 0 ≤ 100000) : wp d 211 803 [l0, l1, l2, l3] (.inl i :: .inr (.inr (some 1001)) :: st) G h Q = wp d 211 804 [l0, l1, l2, l3] (.inl (h 1001 i.toNat) :: st) G h Q := x_scr rfl hk
set_option maxRecDepth 100000 in
theorem X_211_804 {d : Nat} {l1 l2 l3 : Option AV} {st : List AV} {x : Nat} {G : AG} {h : AH} {Q : Option AV → AG → AH → Prop} : wp d 211 804 [some (.inr (.inr (some x))), l1, l2, l3] st G h Q = wp d 211 805 [some (.inr (.inr (some x))), l1, l2, l3] (.inr (.inr (some x)) :: st) G h Q := wp_nx rfl
set_option maxRecDepth 100000 in
theorem X_211_805 {d : Nat} {l0 l1 l2 : Option AV} {st : List AV} {x : Int} {G : AG} {h : AH} {Q : Option AV → AG → AH → Prop} : wp d 211 805 [l0, l1, l2, some (.inl x)] st G h Q = wp d 211 806 [l0, l1, l2, some (.inl x)] (.inl x :: st) G h Q := wp_nx rfl
set_option maxRecDepth 100000 in
theorem X_211_806 {d : Nat} {l0 l1 l2 l3 : Option AV} {st : List AV} {G : AG} {h : AH} {Q : Option AV → AG → AH → Prop} : wp d 211 806 [l0, l1, l2, l3] st G h Q = wp d 211 807 [l0, l1, l2, l3] (.inl 4 :: st) G h Q := wp_nx rfl
set_option maxRecDepth 100000 in
theorem X_211_807 {d : Nat} {l0 l1 l2 l3 : Option AV} {st : List AV} {x y : Int} {G : AG} {h : AH} {Q : Option AV → AG → AH → Prop} : wp d 211 807 [l0, l1, l2, l3] (.inl y :: .inl x :: st) G h Q = wp d 211 808 [l0, l1, l2, l3] (.inl (x + y) :: st) G h Q := wp_nx rfl
set_option maxRecDepth 100000 in
theorem X_211_808 {d : Nat} {l0 l1 l2 l3 : Option AV} {st : List AV} {i : Int} {G : AG} {h : AH} {Q : Option AV → AG → AH → Prop} (hk : 0 ≤ i ∧ i < h 1002 0 ∧ h 1002 0 ≤ 100000) : wp d 211 808 [l0, l1, l2, l3] (.inl i :: .inr (.inr (some 1001)) :: st) G h Q = wp d 211 809 [l0, l1, l2, l3] (.inl (h 1001 i.toNat) :: st) G h Q := x_scr rfl hk
set_option maxRecDepth 100000 in
theorem X_211_809 {d : Nat} {l0 l1 l2 l3 : Option AV} {o : Nat} {a1 a2 a3 a4 : AV} {s0 : AV} {G : AG} {h : AH} {Q : Option AV → AG → AH → Prop} (hk : (shp G o).1 = 7 ∧ (shp G o).2 = 20) : wp d 211 809 [l0, l1, l2, l3] (a4 :: a3 :: a2 :: a1 :: .inr (.inr (some o)) :: [s0]) G h Q = call d 165 [.inr (.inr (some o)), a1, a2, a3, a4] G h (fun r G2 h2 => wp d 211 812 [l0, l1, l2, l3] (pushR r [s0]) G2 h2 Q) := x_inv (virt := 3) (as := [.inr (.inr (some o)), a1, a2, a3, a4]) (rest := [s0]) rfl rfl rfl (Nat.le_of_ble_eq_true rfl) (rcv_ok hk)
set_option maxRecDepth 100000 in
theorem X_211_812 {d : Nat} {l0 l1 l2 l3 : Option AV} {st : List AV} {x y : Int} {G : AG} {h : AH} {Q : Option AV → AG → AH → Prop} (hx : (((-2147483648 ≤ x ∧ x < 2147483648) ∧ (-2147483648 ≤ y ∧ y < 2147483648)) ∨ x = y)) : wp d 211 812 [l0, l1, l2, l3] (.inl y :: .inl x :: st) G h Q = if x = y then wp d 211 1337 [l0, l1, l2, l3] st G h Q else wp d 211 815 [l0, l1, l2, l3] st G h Q := x_icc (x = y) (tst_eq x y) rfl rfl hx
set_option maxRecDepth 100000 in
theorem X_211_812_t {d : Nat} {l0 l1 l2 l3 : Option AV} {st : List AV} {x y : Int} {G : AG} {h : AH} {Q : Option AV → AG → AH → Prop} (hx : (((-2147483648 ≤ x ∧ x < 2147483648) ∧ (-2147483648 ≤ y ∧ y < 2147483648)) ∨ x = y) ∧ x = y) : wp d 211 812 [l0, l1, l2, l3] (.inl y :: .inl x :: st) G h Q = wp d 211 1337 [l0, l1, l2, l3] st G h Q := x_ict (x = y) (tst_eq x y) rfl rfl hx
set_option maxRecDepth 100000 in
theorem X_211_812_f {d : Nat} {l0 l1 l2 l3 : Option AV} {st : List AV} {x y : Int} {G : AG} {h : AH} {Q : Option AV → AG → AH → Prop} (hx : (((-2147483648 ≤ x ∧ x < 2147483648) ∧ (-2147483648 ≤ y ∧ y < 2147483648)) ∨ x = y) ∧ ¬ (x = y)) : wp d 211 812 [l0, l1, l2, l3] (.inl y :: .inl x :: st) G h Q = wp d 211 815 [l0, l1, l2, l3] st G h Q := x_icf (x = y) (tst_eq x y) (tgt := 1337) rfl rfl hx
set_option maxRecDepth 100000 in
theorem X_211_815 {d : Nat} {l0 l1 l2 l3 : Option AV} {st : List AV} {G : AG} {h : AH} {Q : Option AV → AG → AH → Prop} : wp d 211 815 [l0, l1, l2, l3] st G h Q = wp d 211 816 [l0, l1, l2, l3] (.inl 0 :: st) G h Q := wp_nx rfl
set_option maxRecDepth 100000 in
theorem X_211_816 {d : Nat} {l0 l1 l2 l3 : Option AV} {x : Int} {G : AG} {h : AH} {Q : Option AV → AG → AH → Prop} (hx : x = 0 ∨ x = 1) : wp d 211 816 [l0, l1, l2, l3] [.inl x] G h Q = Q (some (.inl x)) G h := x_retZ rfl hx
set_option maxRecDepth 100000 in
theorem X_211_817 {d : Nat} {l0 l2 l3 : Option AV} {st : List AV} {x : Nat} {G : AG} {h : AH} {Q : Option AV → AG → AH → Prop} : wp d 211 817 [l0, some (.inr (.inr (some x))), l2, l3] st G h Q = wp d 211 818 [l0, some (.inr (.inr (some x))), l2, l3] (.inr (.inr (some x)) :: st) G h Q := wp_nx rfl
set_option maxRecDepth 100000 in
theorem X_211_818 {d : Nat} {l1 l2 l3 : Option AV} {st : List AV} {x : Nat} {G : AG} {h : AH} {Q : Option AV → AG → AH → Prop} : wp d 211 818 [some (.inr (.inr (some x))), l1, l2, l3] st G h Q = wp d 211 819 [some (.inr (.inr (some x))), l1, l2, l3] (.inr (.inr (some x)) :: st) G h Q := wp_nx rfl
set_option maxRecDepth 100000 in
theorem X_211_819 {d : Nat} {l0 l1 l2 : Option AV} {st : List AV} {x : Int} {G : AG} {h : AH} {Q : Option AV → AG → AH → Prop} : wp d 211 819 [l0, l1, l2, some (.inl x)] st G h Q = wp d 211 820 [l0, l1, l2, some (.inl x)] (.inl x :: st) G h Q := wp_nx rfl
set_option maxRecDepth 100000 in
theorem X_211_820 {d : Nat} {l0 l1 l2 l3 : Option AV} {st : List AV} {G : AG} {h : AH} {Q : Option AV → AG → AH → Prop} : wp d 211 820 [l0, l1, l2, l3] st G h Q = wp d 211 821 [l0, l1, l2, l3] (.inl 1 :: st) G h Q := wp_nx rfl
set_option maxRecDepth 100000 in
theorem X_211_821 {d : Nat} {l0 l1 l2 l3 : Option AV} {st : List AV} {x y : Int} {G : AG} {h : AH} {Q : Option AV → AG → AH → Prop} : wp d 211 821 [l0, l1, l2, l3] (.inl y :: .inl x :: st) G h Q = wp d 211 822 [l0, l1, l2, l3] (.inl (x + y) :: st) G h Q := wp_nx rfl
set_option maxRecDepth 100000 in
theorem X_211_822 {d : Nat} {l0 l1 l2 l3 : Option AV} {st : List AV} {i : Int} {G : AG} {h : AH} {Q : Option AV → AG → AH → Prop} (hk : 0 ≤ i ∧ i < h 1002 0 ∧ h 1002 0 ≤ 100000) : wp d 211 822 [l0, l1, l2, l3] (.inl i :: .inr (.inr (some 1001)) :: st) G h Q = wp d 211 823 [l0, l1, l2, l3] (.inl (h 1001 i.toNat) :: st) G h Q := x_scr rfl hk
set_option maxRecDepth 100000 in
theorem X_211_823 {d : Nat} {l1 l2 l3 : Option AV} {st : List AV} {x : Nat} {G : AG} {h : AH} {Q : Option AV → AG → AH → Prop} : wp d 211 823 [some (.inr (.inr (some x))), l1, l2, l3] st G h Q = wp d 211 824 [some (.inr (.inr (some x))), l1, l2, l3] (.inr (.inr (some x)) :: st) G h Q := wp_nx rfl
set_option maxRecDepth 100000 in
theorem X_211_824 {d : Nat} {l0 l1 l2 : Option AV} {st : List AV} {x : Int} {G : AG} {h : AH} {Q : Option AV → AG → AH → Prop} : wp d 211 824 [l0, l1, l2, some (.inl x)] st G h Q = wp d 211 825 [l0, l1, l2, some (.inl x)] (.inl x :: st) G h Q := wp_nx rfl
set_option maxRecDepth 100000 in
theorem X_211_825 {d : Nat} {l0 l1 l2 l3 : Option AV} {st : List AV} {G : AG} {h : AH} {Q : Option AV → AG → AH → Prop} : wp d 211 825 [l0, l1, l2, l3] st G h Q = wp d 211 826 [l0, l1, l2, l3] (.inl 2 :: st) G h Q := wp_nx rfl
set_option maxRecDepth 100000 in
theorem X_211_826 {d : Nat} {l0 l1 l2 l3 : Option AV} {st : List AV} {x y : Int} {G : AG} {h : AH} {Q : Option AV → AG → AH → Prop} : wp d 211 826 [l0, l1, l2, l3] (.inl y :: .inl x :: st) G h Q = wp d 211 827 [l0, l1, l2, l3] (.inl (x + y) :: st) G h Q := wp_nx rfl
set_option maxRecDepth 100000 in
theorem X_211_827 {d : Nat} {l0 l1 l2 l3 : Option AV} {st : List AV} {i : Int} {G : AG} {h : AH} {Q : Option AV → AG → AH → Prop} (hk : 0 ≤ i ∧ i < h 1002 0 ∧ h 1002 0 ≤ 100000) : wp d 211 827 [l0, l1, l2, l3] (.inl i :: .inr (.inr (some 1001)) :: st) G h Q = wp d 211 828 [l0, l1, l2, l3] (.inl (h 1001 i.toNat) :: st) G h Q := x_scr rfl hk
set_option maxRecDepth 100000 in
theorem X_211_828 {d : Nat} {l0 l1 l2 l3 : Option AV} {o : Nat} {a1 a2 : AV} {G : AG} {h : AH} {Q : Option AV → AG → AH → Prop} (hk : (shp G o).1 = 6 ∧ (shp G o).2 = 13) : wp d 211 828 [l0, l1, l2, l3] (a2 :: a1 :: .inr (.inr (some o)) :: []) G h Q = call d 58 [.inr (.inr (some o)), a1, a2] G h (fun r G2 h2 => wp d 211 831 [l0, l1, l2, l3] (pushR r []) G2 h2 Q) := x_inv (virt := 2) (as := [.inr (.inr (some o)), a1, a2]) (rest := []) rfl rfl rfl (Nat.le_of_ble_eq_true rfl) (rcv_ok hk)
set_option maxRecDepth 100000 in
theorem X_211_831 {d : Nat} {l0 l1 l3 : Option AV} {st : List AV} {x : Nat} {G : AG} {h : AH} {Q : Option AV → AG → AH → Prop} : wp d 211 831 [l0, l1, some (.inr (.inr (some x))), l3] st G h Q = wp d 211 832 [l0, l1, some (.inr (.inr (some x))), l3] (.inr (.inr (some x)) :: st) G h Q := wp_nx rfl
set_option maxRecDepth 100000 in
theorem X_211_832 {d : Nat} {l1 l2 l3 : Option AV} {st : List AV} {x : Nat} {G : AG} {h : AH} {Q : Option AV → AG → AH → Prop} : wp d 211 832 [some (.inr (.inr (some x))), l1, l2, l3] st G h Q = wp d 211 833 [some (.inr (.inr (some x))), l1, l2, l3] (.inr (.inr (some x)) :: st) G h Q := wp_nx rfl
set_option maxRecDepth 100000 in
theorem X_211_833 {d : Nat} {l0 l1 l2 : Option AV} {st : List AV} {x : Int} {G : AG} {h : AH} {Q : Option AV → AG → AH → Prop} : wp d 211 833 [l0, l1, l2, some (.inl x)] st G h Q = wp d 211 834 [l0, l1, l2, some (.inl x)] (.inl x :: st) G h Q := wp_nx rfl
set_option maxRecDepth 100000 in
theorem X_211_834 {d : Nat} {l0 l1 l2 l3 : Option AV} {st : List AV} {G : AG} {h : AH} {Q : Option AV → AG → AH → Prop} : wp d 211 834 [l0, l1, l2, l3] st G h Q = wp d 211 835 [l0, l1, l2, l3] (.inl 1 :: st) G h Q := wp_nx rfl
set_option maxRecDepth 100000 in
theorem X_211_835 {d : Nat} {l0 l1 l2 l3 : Option AV} {st : List AV} {x y : Int} {G : AG} {h : AH} {Q : Option AV → AG → AH → Prop} : wp d 211 835 [l0, l1, l2, l3] (.inl y :: .inl x :: st) G h Q = wp d 211 836 [l0, l1, l2, l3] (.inl (x + y) :: st) G h Q := wp_nx rfl
set_option maxRecDepth 100000 in
theorem X_211_836 {d : Nat} {l0 l1 l2 l3 : Option AV} {st : List AV} {i : Int} {G : AG} {h : AH} {Q : Option AV → AG → AH → Prop} (hk : 0 ≤ i ∧ i < h 1002 0 ∧ h 1002 0 ≤ 100000) : wp d 211 836 [l0, l1, l2, l3] (.inl i :: .inr (.inr (some 1001)) :: st) G h Q = wp d 211 837 [l0, l1, l2, l3] (.inl (h 1001 i.toNat) :: st) G h Q := x_scr rfl hk
set_option maxRecDepth 100000 in
theorem X_211_837 {d : Nat} {l1 l2 l3 : Option AV} {st : List AV} {x : Nat} {G : AG} {h : AH} {Q : Option AV → AG → AH → Prop} : wp d 211 837 [some (.inr (.inr (some x))), l1, l2, l3] st G h Q = wp d 211 838 [some (.inr (.inr (some x))), l1, l2, l3] (.inr (.inr (some x)) :: st) G h Q := wp_nx rfl
set_option maxRecDepth 100000 in
theorem X_211_838 {d : Nat} {l0 l1 l2 : Option AV} {st : List AV} {x : Int} {G : AG} {h : AH} {Q : Option AV → AG → AH → Prop} : wp d 211 838 [l0, l1, l2, some (.inl x)] st G h Q = wp d 211 839 [l0, l1, l2, some (.inl x)] (.inl x :: st) G h Q := wp_nx rfl
set_option maxRecDepth 100000 in
theorem X_211_839 {d : Nat} {l0 l1 l2 l3 : Option AV} {st : List AV} {G : AG} {h : AH} {Q : Option AV → AG → AH → Prop} : wp d 211 839 [l0, l1, l2, l3] st G h Q = wp d 211 840 [l0, l1, l2, l3] (.inl 2 :: st) G h Q := wp_nx rfl
set_option maxRecDepth 100000 in
theorem X_211_840 {d : Nat} {l0 l1 l2 l3 : Option AV} {st : List AV} {x y : Int} {G : AG} {h : AH} {Q : Option AV → AG → AH → Prop} : wp d 211 840 [l0, l1, l2, l3] (.inl y :: .inl x :: st) G h Q = wp d 211 841 [l0, l1, l2, l3] (.inl (x + y) :: st) G h Q := wp_nx rfl
set_option maxRecDepth 100000 in
theorem X_211_841 {d : Nat} {l0 l1 l2 l3 : Option AV} {st : List AV} {i : Int} {G : AG} {h : AH} {Q : Option AV → AG → AH → Prop} (hk : 0 ≤ i ∧ i < h 1002 0 ∧ h 1002 0 ≤ 100000) : wp d 211 841 [l0, l1, l2, l3] (.inl i :: .inr (.inr (some 1001)) :: st) G h Q = wp d 211 842 [l0, l1, l2, l3] (.inl (h 1001 i.toNat) :: st) G h Q := x_scr rfl hk
set_option maxRecDepth 100000 in
theorem X_211_842 {d : Nat} {l0 l1 l2 l3 : Option AV} {o : Nat} {a1 a2 : AV} {s0 : AV} {G : AG} {h : AH} {Q : Option AV → AG → AH → Prop} (hk : (shp G o).1 = 7 ∧ (shp G o).2 = 20) : wp d 211 842 [l0, l1, l2, l3] (a2 :: a1 :: .inr (.inr (some o)) :: [s0]) G h Q = call d 167 [.inr (.inr (some o)), a1, a2] G h (fun r G2 h2 => wp d 211 845 [l0, l1, l2, l3] (pushR r [s0]) G2 h2 Q) := x_inv (virt := 3) (as := [.inr (.inr (some o)), a1, a2]) (rest := [s0]) rfl rfl rfl (Nat.le_of_ble_eq_true rfl) (rcv_ok hk)
set_option maxRecDepth 100000 in
theorem X_211_845 {d : Nat} {l0 l1 l2 l3 : Option AV} {st : List AV} {x y : Int} {G : AG} {h : AH} {Q : Option AV → AG → AH → Prop} (hx : (((-2147483648 ≤ x ∧ x < 2147483648) ∧ (-2147483648 ≤ y ∧ y < 2147483648)) ∨ x = y)) : wp d 211 845 [l0, l1, l2, l3] (.inl y :: .inl x :: st) G h Q = if x = y then wp d 211 1337 [l0, l1, l2, l3] st G h Q else wp d 211 848 [l0, l1, l2, l3] st G h Q := x_icc (x = y) (tst_eq x y) rfl rfl hx
set_option maxRecDepth 100000 in
theorem X_211_845_t {d : Nat} {l0 l1 l2 l3 : Option AV} {st : List AV} {x y : Int} {G : AG} {h : AH} {Q : Option AV → AG → AH → Prop} (hx : (((-2147483648 ≤ x ∧ x < 2147483648) ∧ (-2147483648 ≤ y ∧ y < 2147483648)) ∨ x = y) ∧ x = y) : wp d 211 845 [l0, l1, l2, l3] (.inl y :: .inl x :: st) G h Q = wp d 211 1337 [l0, l1, l2, l3] st G h Q := x_ict (x = y) (tst_eq x y) rfl rfl hx
set_option maxRecDepth 100000 in
theorem X_211_845_f {d : Nat} {l0 l1 l2 l3 : Option AV} {st : List AV} {x y : Int} {G : AG} {h : AH} {Q : Option AV → AG → AH → Prop} (hx : (((-2147483648 ≤ x ∧ x < 2147483648) ∧ (-2147483648 ≤ y ∧ y < 2147483648)) ∨ x = y) ∧ ¬ (x = y)) : wp d 211 845 [l0, l1, l2, l3] (.inl y :: .inl x :: st) G h Q = wp d 211 848 [l0, l1, l2, l3] st G h Q := x_icf (x = y) (tst_eq x y) (tgt := 1337) rfl rfl hx
set_option maxRecDepth 100000 in
theorem X_211_848 {d : Nat} {l0 l1 l2 l3 : Option AV} {st : List AV} {G : AG} {h : AH} {Q : Option AV → AG → AH → Prop} : wp d 211 848 [l0, l1, l2, l3] st G h Q = wp d 211 849 [l0, l1, l2, l3] (.inl 0 :: st) G h Q := wp_nx rfl
set_option maxRecDepth 100000 in
theorem X_211_849 {d : Nat} {l0 l1 l2 l3 : Option AV} {x : Int} {G : AG} {h : AH} {Q : Option AV → AG → AH → Prop} (hx : x = 0 ∨ x = 1) : wp d 211 849 [l0, l1, l2, l3] [.inl x] G h Q = Q (some (.inl x)) G h := x_retZ rfl hx
set_option maxRecDepth 100000 in
theorem X_211_850 {d : Nat} {l0 l2 l3 : Option AV} {st : List AV} {x : Nat} {G : AG} {h : AH} {Q : Option AV → AG → AH → Prop} : wp d 211 850 [l0, some (.inr (.inr (some x))), l2, l3] st G h Q = wp d 211 851 [l0, some (.inr (.inr (some x))), l2, l3] (.inr (.inr (some x)) :: st) G h Q := wp_nx rfl
set_option maxRecDepth 100000 in
theorem X_211_851 {d : Nat} {l1 l2 l3 : Option AV} {st : List AV} {x : Nat} {G : AG} {h : AH} {Q : Option AV → AG → AH → Prop} : wp d 211 851 [some (.inr (.inr (some x))), l1, l2, l3] st G h Q = wp d 211 852 [some (.inr (.inr (some x))), l1, l2, l3] (.inr (.inr (some x)) :: st) G h Q := wp_nx rfl
set_option maxRecDepth 100000 in
theorem X_211_852 {d : Nat} {l0 l1 l2 : Option AV} {st : List AV} {x : Int} {G : AG} {h : AH} {Q : Option AV → AG → AH → Prop} : wp d 211 852 [l0, l1, l2, some (.inl x)] st G h Q = wp d 211 853 [l0, l1, l2, some (.inl x)] (.inl x :: st) G h Q := wp_nx rfl
set_option maxRecDepth 100000 in
theorem X_211_853 {d : Nat} {l0 l1 l2 l3 : Option AV} {st : List AV} {G : AG} {h : AH} {Q : Option AV → AG → AH → Prop} : wp d 211 853 [l0, l1, l2, l3] st G h Q = wp d 211 854 [l0, l1, l2, l3] (.inl 1 :: st) G h Q := wp_nx rfl
set_option maxRecDepth 100000 in
theorem X_211_854 {d : Nat} {l0 l1 l2 l3 : Option AV} {st : List AV} {x y : Int} {G : AG} {h : AH} {Q : Option AV → AG → AH → Prop} : wp d 211 854 [l0, l1, l2, l3] (.inl y :: .inl x :: st) G h Q = wp d 211 855 [l0, l1, l2, l3] (.inl (x + y) :: st) G h Q := wp_nx rfl
set_option maxRecDepth 100000 in
theorem X_211_855 {d : Nat} {l0 l1 l2 l3 : Option AV} {st : List AV} {i : Int} {G : AG} {h : AH} {Q : Option AV → AG → AH → Prop} (hk : 0 ≤ i ∧ i < h 1002 0 ∧ h 1002 0 ≤ 100000) : wp d 211 855 [l0, l1, l2, l3] (.inl i :: .inr (.inr (some 1001)) :: st) G h Q = wp d 211 856 [l0, l1, l2, l3] (.inl (h 1001 i.toNat) :: st) G h Q := x_scr rfl hk
set_option maxRecDepth 100000 in
theorem X_211_856 {d : Nat} {l0 l1 l2 l3 : Option AV} {o : Nat} {a1 : AV} {G : AG} {h : AH} {Q : Option AV → AG → AH → Prop} (hk : (shp G o).1 = 6 ∧ (shp G o).2 = 13) : wp d 211 856 [l0, l1, l2, l3] (a1 :: .inr (.inr (some o)) :: []) G h Q = call d 59 [.inr (.inr (some o)), a1] G h (fun r G2 h2 => wp d 211 859 [l0, l1, l2, l3] (pushR r []) G2 h2 Q) := x_inv (virt := 2) (as := [.inr (.inr (some o)), a1]) (rest := []) rfl rfl rfl (Nat.le_of_ble_eq_true rfl) (rcv_ok hk)
set_option maxRecDepth 100000 in
theorem X_211_859 {d : Nat} {l0 l1 l3 : Option AV} {st : List AV} {x : Nat} {G : AG} {h : AH} {Q : Option AV → AG → AH → Prop} : wp d 211 859 [l0, l1, some (.inr (.inr (some x))), l3] st G h Q = wp d 211 860 [l0, l1, some (.inr (.inr (some x))), l3] (.inr (.inr (some x)) :: st) G h Q := wp_nx rfl
set_option maxRecDepth 100000 in
theorem X_211_860 {d : Nat} {l1 l2 l3 : Option AV} {st : List AV} {x : Nat} {G : AG} {h : AH} {Q : Option AV → AG → AH → Prop} : wp d 211 860 [some (.inr (.inr (some x))), l1, l2, l3] st G h Q = wp d 211 861 [some (.inr (.inr (some x))), l1, l2, l3] (.inr (.inr (some x)) :: st) G h Q := wp_nx rfl
set_option maxRecDepth 100000 in
theorem X_211_861 {d : Nat} {l0 l1 l2 : Option AV} {st : List AV} {x : Int} {G : AG} {h : AH} {Q : Option AV → AG → AH → Prop} : wp d 211 861 [l0, l1, l2, some (.inl x)] st G h Q = wp d 211 862 [l0, l1, l2, some (.inl x)] (.inl x :: st) G h Q := wp_nx rfl
set_option maxRecDepth 100000 in
theorem X_211_862 {d : Nat} {l0 l1 l2 l3 : Option AV} {st : List AV} {G : AG} {h : AH} {Q : Option AV → AG → AH → Prop} : wp d 211 862 [l0, l1, l2, l3] st G h Q = wp d 211 863 [l0, l1, l2, l3] (.inl 1 :: st) G h Q := wp_nx rfl
set_option maxRecDepth 100000 in
theorem X_211_863 {d : Nat} {l0 l1 l2 l3 : Option AV} {st : List AV} {x y : Int} {G : AG} {h : AH} {Q : Option AV → AG → AH → Prop} : wp d 211 863 [l0, l1, l2, l3] (.inl y :: .inl x :: st) G h Q = wp d 211 864 [l0, l1, l2, l3] (.inl (x + y) :: st) G h Q := wp_nx rfl
set_option maxRecDepth 100000 in
theorem X_211_864 {d : Nat} {l0 l1 l2 l3 : Option AV} {st : List AV} {i : Int} {G : AG} {h : AH} {Q : Option AV → AG → AH → Prop} (hk : 0 ≤ i ∧ i < h 1002 0 ∧ h 1002 0 ≤ 100000) : wp d 211 864 [l0, l1, l2, l3] (.inl i :: .inr (.inr (some 1001)) :: st) G h Q = wp d 211 865 [l0, l1, l2, l3] (.inl (h 1001 i.toNat) :: st) G h Q := x_scr rfl hk
set_option maxRecDepth 100000 in
theorem X_211_865 {d : Nat} {l0 l1 l2 l3 : Option AV} {o : Nat} {a1 : AV} {s0 : AV} {G : AG} {h : AH} {Q : Option AV → AG → AH → Prop} (hk : (shp G o).1 = 7 ∧ (shp G o).2 = 20) : wp d 211 865 [l0, l1, l2, l3] (a1 :: .inr (.inr (some o)) :: [s0]) G h Q = call d 169 [.inr (.inr (some o)), a1] G h (fun r G2 h2 => wp d 211 868 [l0, l1, l2, l3] (pushR r [s0]) G2 h2 Q) := x_inv (virt := 3) (as := [.inr (.inr (some o)), a1]) (rest := [s0]) rfl rfl rfl (Nat.le_of_ble_eq_true rfl) (rcv_ok hk)
set_option maxRecDepth 100000 in
theorem X_211_868 {d : Nat} {l0 l1 l2 l3 : Option AV} {st : List AV} {x y : Int} {G : AG} {h : AH} {Q : Option AV → AG → AH → Prop} (hx : (((-2147483648 ≤ x ∧ x < 2147483648) ∧ (-2147483648 ≤ y ∧ y < 2147483648)) ∨ x = y)) : wp d 211 868 [l0, l1, l2, l3] (.inl y :: .inl x :: st) G h Q = if x = y then wp d 211 1337 [l0, l1, l2, l3] st G h Q else wp d 211 871 [l0, l1, l2, l3] st G h Q := x_icc (x = y) (tst_eq x y) rfl rfl hx
set_option maxRecDepth 100000 in
theorem X_211_868_t {d : Nat} {l0 l1 l2 l3 : Option AV} {st : List AV} {x y : Int} {G : AG} {h : AH} {Q : Option AV → AG → AH → Prop} (hx : (((-2147483648 ≤ x ∧ x < 2147483648) ∧ (-2147483648 ≤ y ∧ y < 2147483648)) ∨ x = y) ∧ x = y) : wp d 211 868 [l0, l1, l2, l3] (.inl y :: .inl x :: st) G h Q = wp d 211 1337 [l0, l1, l2, l3] st G h Q := x_ict (x = y) (tst_eq x y) rfl rfl hx
set_option maxRecDepth 100000 in
theorem X_211_868_f {d : Nat} {l0 l1 l2 l3 : Option AV} {st : List AV} {x y : Int} {G : AG} {h : AH} {Q : Option AV → AG → AH → Prop} (hx : (((-2147483648 ≤ x ∧ x < 2147483648) ∧ (-2147483648 ≤ y ∧ y < 2147483648)) ∨ x = y) ∧ ¬ (x = y)) : wp d 211 868 [l0, l1, l2, l3] (.inl y :: .inl x :: st) G h Q = wp d 211 871 [l0, l1, l2, l3] st G h Q := x_icf (x = y) (tst_eq x y) (tgt := 1337) rfl rfl hx
set_option maxRecDepth 100000 in
theorem X_211_871 {d : Nat} {l0 l1 l2 l3 : Option AV} {st : List AV} {G : AG} {h : AH} {Q : Option AV → AG → AH → Prop} : wp d 211 871 [l0, l1, l2, l3] st G h Q = wp d 211 872 [l0, l1, l2, l3] (.inl 0 :: st) G h Q := wp_nx rfl
set_option maxRecDepth 100000 in
theorem X_211_872 {d : Nat} {l0 l1 l2 l3 : Option AV} {x : Int} {G : AG} {h : AH} {Q : Option AV → AG → AH → Prop} (hx : x = 0 ∨ x = 1) : wp d 211 872 [l0, l1, l2, l3] [.inl x] G h Q = Q (some (.inl x)) G h := x_retZ rfl hx
set_option maxRecDepth 100000 in
theorem X_211_873 {d : Nat} {l0 l2 l3 : Option AV} {st : List AV} {x : Nat} {G : AG} {h : AH} {Q : Option AV → AG → AH → Prop} : wp d 211 873 [l0, some (.inr (.inr (some x))), l2, l3] st G h Q = wp d 211 874 [l0, some (.inr (.inr (some x))), l2, l3] (.inr (.inr (some x)) :: st) G h Q := wp_nx rfl
set_option maxRecDepth 100000 in
theorem X_211_874 {d : Nat} {l1 l2 l3 : Option AV} {st : List AV} {x : Nat} {G : AG} {h : AH} {Q : Option AV → AG → AH → Prop} : wp d 211 874 [some (.inr (.inr (some x))), l1, l2, l3] st G h Q = wp d 211 875 [some (.inr (.inr (some x))), l1, l2, l3] (.inr (.inr (some x)) :: st) G h Q := wp_nx rfl
set_option maxRecDepth 100000 in
theorem X_211_875 {d : Nat} {l0 l1 l2 : Option AV} {st : List AV} {x : Int} {G : AG} {h : AH} {Q : Option AV → AG → AH → Prop} : wp d 211 875 [l0, l1, l2, some (.inl x)] st G h Q = wp d 211 876 [l0, l1, l2, some (.inl x)] (.inl x :: st) G h Q := wp_nx rfl
set_option maxRecDepth 100000 in
theorem X_211_876 {d : Nat} {l0 l1 l2 l3 : Option AV} {st : List AV} {G : AG} {h : AH} {Q : Option AV → AG → AH → Prop} : wp d 211 876 [l0, l1, l2, l3] st G h Q = wp d 211 877 [l0, l1, l2, l3] (.inl 1 :: st) G h Q := wp_nx rfl
set_option maxRecDepth 100000 in
theorem X_211_877 {d : Nat} {l0 l1 l2 l3 : Option AV} {st : List AV} {x y : Int} {G : AG} {h : AH} {Q : Option AV → AG → AH → Prop} : wp d 211 877 [l0, l1, l2, l3] (.inl y :: .inl x :: st) G h Q = wp d 211 878 [l0, l1, l2, l3] (.inl (x + y) :: st) G h Q := wp_nx rfl
set_option maxRecDepth 100000 in
theorem X_211_878 {d : Nat} {l0 l1 l2 l3 : Option AV} {st : List AV} {i : Int} {G : AG} {h : AH} {Q : Option AV → AG → AH → Prop} (hk : 0 ≤ i ∧ i < h 1002 0 ∧ h 1002 0 ≤ 100000) : wp d 211 878 [l0, l1, l2, l3] (.inl i :: .inr (.inr (some 1001)) :: st) G h Q = wp d 211 879 [l0, l1, l2, l3] (.inl (h 1001 i.toNat) :: st) G h Q := x_scr rfl hk
set_option maxRecDepth 100000 in
theorem X_211_879 {d : Nat} {l1 l2 l3 : Option AV} {st : List AV} {x : Nat} {G : AG} {h : AH} {Q : Option AV → AG → AH → Prop} : wp d 211 879 [some (.inr (.inr (some x))), l1, l2, l3] st G h Q = wp d 211 880 [some (.inr (.inr (some x))), l1, l2, l3] (.inr (.inr (some x)) :: st) G h Q := wp_nx rfl
set_option maxRecDepth 100000 in
theorem X_211_880 {d : Nat} {l0 l1 l2 : Option AV} {st : List AV} {x : Int} {G : AG} {h : AH} {Q : Option AV → AG → AH → Prop} : wp d 211 880 [l0, l1, l2, some (.inl x)] st G h Q = wp d 211 881 [l0, l1, l2, some (.inl x)] (.inl x :: st) G h Q := wp_nx rfl
set_option maxRecDepth 100000 in
theorem X_211_881 {d : Nat} {l0 l1 l2 l3 : Option AV} {st : List AV} {G : AG} {h : AH} {Q : Option AV → AG → AH → Prop} : wp d 211 881 [l0, l1, l2, l3] st G h Q = wp d 211 882 [l0, l1, l2, l3] (.inl 2 :: st) G h Q := wp_nx rfl
set_option maxRecDepth 100000 in
theorem X_211_882 {d : Nat} {l0 l1 l2 l3 : Option AV} {st : List AV} {x y : Int} {G : AG} {h : AH} {Q : Option AV → AG → AH → Prop} : wp d 211 882 [l0, l1, l2, l3] (.inl y :: .inl x :: st) G h Q = wp d 211 883 [l0, l1, l2, l3] (.inl (x + y) :: st) G h Q := wp_nx rfl
set_option maxRecDepth 100000 in
theorem X_211_883 {d : Nat} {l0 l1 l2 l3 : Option AV} {st : List AV} {i : Int} {G : AG} {h : AH} {Q : Option AV → AG → AH → Prop} (hk : 0 ≤ i ∧ i < h 1002 0 ∧ h 1002 0 ≤ 100000) : wp d 211 883 [l0, l1, l2, l3] (.inl i :: .inr (.inr (some 1001)) :: st) G h Q = wp d 211 884 [l0, l1, l2, l3] (.inl (h 1001 i.toNat) :: st) G h Q := x_scr rfl hk
set_option maxRecDepth 100000 in
theorem X_211_884 {d : Nat} {l1 l2 l3 : Option AV} {st : List AV} {x : Nat} {G : AG} {h : AH} {Q : Option AV → AG → AH → Prop} : wp d 211 884 [some (.inr (.inr (some x))), l1, l2, l3] st G h Q = wp d 211 885 [some (.inr (.inr (some x))), l1, l2, l3] (.inr (.inr (some x)) :: st) G h Q := wp_nx rfl
set_option maxRecDepth 100000 in
theorem X_211_885 {d : Nat} {l0 l1 l2 : Option AV} {st : List AV} {x : Int} {G : AG} {h : AH} {Q : Option AV → AG → AH → Prop} : wp d 211 885 [l0, l1, l2, some (.inl x)] st G h Q = wp d 211 886 [l0, l1, l2, some (.inl x)] (.inl x :: st) G h Q := wp_nx rfl
set_option maxRecDepth 100000 in
theorem X_211_886 {d : Nat} {l0 l1 l2 l3 : Option AV} {st : List AV} {G : AG} {h : AH} {Q : Option AV → AG → AH → Prop} : wp d 211 886 [l0, l1, l2, l3] st G h Q = wp d 211 887 [l0, l1, l2, l3] (.inl 3 :: st) G h Q := wp_nx rfl
set_option maxRecDepth 100000 in
theorem X_211_887 {d : Nat} {l0 l1 l2 l3 : Option AV} {st : List AV} {x y : Int} {G : AG} {h : AH} {Q : Option AV → AG → AH → Prop} : wp d 211 887 [l0, l1, l2, l3] (.inl y :: .inl x :: st) G h Q = wp d 211 888 [l0, l1, l2, l3] (.inl (x + y) :: st) G h Q := wp_nx rfl
set_option maxRecDepth 100000 in
theorem X_211_888 {d : Nat} {l0 l1 l2 l3 : Option AV} {st : List AV} {i : Int} {G : AG} {h : AH} {Q : Option AV → AG → AH → Prop} (hk : 0 ≤ i ∧ i < h 1002 0 ∧ h 1002 0 ≤ 100000) : wp d 211 888 [l0, l1, l2, l3] (.inl i :: .inr (.inr (some 1001)) :: st) G h Q = wp d 211 889 [l0, l1, l2, l3] (.inl (h 1001 i.toNat) :: st) G h Q := x_scr rfl hk
set_option maxRecDepth 100000 in
theorem X_211_889 {d : Nat} {l0 l1 l2 l3 : Option AV} {o : Nat} {a1 a2 a3 : AV} {G : AG} {h : AH} {Q : Option AV → AG → AH → Prop} (hk : (shp G o).1 = 6 ∧ (shp G o).2 = 13) : wp d 211 889 [l0, l1, l2, l3] (a3 :: a2 :: a1 :: .inr (.inr (some o)) :: []) G h Q = call d 60 [.inr (.inr (some o)), a1, a2, a3] G h (fun r G2 h2 => wp d 211 892 [l0, l1, l2, l3] (pushR r []) G2 h2 Q) := x_inv (virt := 2) (as := [.inr (.inr (some o)), a1, a2, a3]) (rest := []) rfl rfl rfl (Nat.le_of_ble_eq_true rfl) (rcv_ok hk)
set_option maxRecDepth 100000 in
theorem X_211_892 {d : Nat} {l0 l1 l3 : Option AV} {st : List AV} {x : Nat} {G : AG} {h : AH} {Q : Option AV → AG → AH → Prop} : wp d 211 892 [l0, l1, some (.inr (.inr (some x))), l3] st G h Q = wp d 211 893 [l0, l1, some (.inr (.inr (some x))), l3] (.inr (.inr (some x)) :: st) G h Q := wp_nx rfl
set_option maxRecDepth 100000 in
theorem X_211_893 {d : Nat} {l1 l2 l3 : Option AV} {st : List AV} {x : Nat} {G : AG} {h : AH} {Q : Option AV → AG → AH → Prop} : wp d 211 893 [some (.inr (.inr (some x))), l1, l2, l3] st G h Q = wp d 211 894 [some (.inr (.inr (some x))), l1, l2, l3] (.inr (.inr (some x)) :: st) G h Q := wp_nx rfl
set_option maxRecDepth 100000 in
theorem X_211_894 {d : Nat} {l0 l1 l2 : Option AV} {st : List AV} {x : Int} {G : AG} {h : AH} {Q : Option AV → AG → AH → Prop} : wp d 211 894 [l0, l1, l2, some (.inl x)] st G h Q = wp d 211 895 [l0, l1, l2, some (.inl x)] (.inl x :: st) G h Q := wp_nx rfl
set_option maxRecDepth 100000 in
theorem X_211_895 {d : Nat} {l0 l1 l2 l3 : Option AV} {st : List AV} {G : AG} {h : AH} {Q : Option AV → AG → AH → Prop} : wp d 211 895 [l0, l1, l2, l3] st G h Q = wp d 211 896 [l0, l1, l2, l3] (.inl 1 :: st) G h Q := wp_nx rfl
set_option maxRecDepth 100000 in
theorem X_211_896 {d : Nat} {l0 l1 l2 l3 : Option AV} {st : List AV} {x y : Int} {G : AG} {h : AH} {Q : Option AV → AG → AH → Prop} : wp d 211 896 [l0, l1, l2, l3] (.inl y :: .inl x :: st) G h Q = wp d 211 897 [l0, l1, l2, l3] (.inl (x + y) :: st) G h Q := wp_nx rfl
set_option maxRecDepth 100000 in
theorem X_211_897 {d : Nat} {l0 l1 l2 l3 : Option AV} {st : List AV} {i : Int} {G : AG} {h : AH} {Q : Option AV → AG → AH → Prop} (hk : 0 ≤ i ∧ i < h 1002 0 ∧ h 1002 0 ≤ 100000) : wp d 211 897 [l0, l1, l2, l3] (.inl i :: .inr (.inr (some 1001)) :: st) G h Q = wp d 211 898 [l0, l1, l2, l3] (.inl (h 1001 i.toNat) :: st) G h Q := x_scr rfl hk
set_option maxRecDepth 100000 in
theorem X_211_898 {d : Nat} {l1 l2 l3 : Option AV} {st : List AV} {x : Nat} {G : AG} {h : AH} {Q : Option AV → AG → AH → Prop} : wp d 211 898 [some (.inr (.inr (some x))), l1, l2, l3] st G h Q = wp d 211 899 [some (.inr (.inr (some x))), l1, l2, l3] (.inr (.inr (some x)) :: st) G h Q := wp_nx rfl
set_option maxRecDepth 100000 in
theorem X_211_899 {d : Nat} {l0 l1 l2 : Option AV} {st : List AV} {x : Int} {G : AG} {h : AH} {Q : Option AV → AG → AH → Prop} : wp d 211 899 [l0, l1, l2, some (.inl x)] st G h Q = wp d 211 900 [l0, l1, l2, some (.inl x)] (.inl x :: st) G h Q := wp_nx rfl
set_option maxRecDepth 100000 in
theorem X_211_900 {d : Nat} {l0 l1 l2 l3 : Option AV} {st : List AV} {G : AG} {h : AH} {Q : Option AV → AG → AH → Prop} : wp d 211 900 [l0, l1, l2, l3] st G h Q = wp d 211 901 [l0, l1, l2, l3] (.inl 2 :: st) G h Q := wp_nx rfl
set_option maxRecDepth 100000 in
theorem X_211_901 {d : Nat} {l0 l1 l2 l3 : Option AV} {st : List AV} {x y : Int} {G : AG} {h : AH} {Q : Option AV → AG → AH → Prop} : wp d 211 901 [l0, l1, l2, l3] (.inl y :: .inl x :: st) G h Q = wp d 211 902 [l0, l1, l2, l3] (.inl (x + y) :: st) G h Q := wp_nx rfl
set_option maxRecDepth 100000 in
theorem X_211_902 {d : Nat} {l0 l1 l2 l3 : Option AV} {st : List AV} {i : Int} {G : AG} {h : AH} {Q : Option AV → AG → AH → Prop} (hk : 0 ≤ i ∧ i < h 1002 0 ∧ h 1002 0 ≤ 100000) : wp d 211 902 [l0, l1, l2, l3] (.inl i :: .inr (.inr (some 1001)) :: st) G h Q = wp d 211 903 [l0, l1, l2, l3] (.inl (h 1001 i.toNat) :: st) G h Q := x_scr rfl hk
set_option maxRecDepth 100000 in
theorem X_211_903 {d : Nat} {l1 l2 l3 : Option AV} {st : List AV} {x : Nat} {G : AG} {h : AH} {Q : Option AV → AG → AH → Prop} : wp d 211 903 [some (.inr (.inr (some x))), l1, l2, l3] st G h Q = wp d 211 904 [some (.inr (.inr (some x))), l1, l2, l3] (.inr (.inr (some x)) :: st) G h Q := wp_nx rfl
set_option maxRecDepth 100000 in
theorem X_211_904 {d : Nat} {l0 l1 l2 : Option AV} {st : List AV} {x : Int} {G : AG} {h : AH} {Q : Option AV → AG → AH → Prop} : wp d 211 904 [l0, l1, l2, some (.inl x)] st G h Q = wp d 211 905 [l0, l1, l2, some (.inl x)] (.inl x :: st) G h Q := wp_nx rfl
set_option maxRecDepth 100000 in
theorem X_211_905 {d : Nat} {l0 l1 l2 l3 : Option AV} {st : List AV} {G : AG} {h : AH} {Q : Option AV → AG → AH → Prop} : wp d 211 905 [l0, l1, l2, l3] st G h Q = wp d 211 906 [l0, l1, l2, l3] (.inl 3 :: st) G h Q := wp_nx rfl
set_option maxRecDepth 100000 in
theorem X_211_906 {d : Nat} {l0 l1 l2 l3 : Option AV} {st : List AV} {x y : Int} {G : AG} {h : AH} {Q : Option AV → AG → AH → Prop} : wp d 211 906 [l0, l1, l2, l3] (.inl y :: .inl x :: st) G h Q = wp d 211 907 [l0, l1, l2, l3] (.inl (x + y) :: st) G h Q := wp_nx rfl
set_option maxRecDepth 100000 in
theorem X_211_907 {d : Nat} {l0 l1 l2 l3 : Option AV} {st : List AV} {i : Int} {G : AG} {h : AH} {Q : Option AV → AG → AH → Prop} (hk : 0 ≤ i ∧ i < h 1002 0 ∧ h 1002 0 ≤ 100000) : wp d 211 907 [l0, l1, l2, l3] (.inl i :: .inr (.inr (some 1001)) :: st) G h Q = wp d 211 908 [l0, l1, l2, l3] (.inl (h 1001 i.toNat) :: st) G h Q := x_scr rfl hk
set_option maxRecDepth 100000 in
theorem X_211_908 {d : Nat} {l0 l1 l2 l3 : Option AV} {o : Nat} {a1 a2 a3 : AV} {s0 : AV} {G : AG} {h : AH} {Q : Option AV → AG → AH → Prop} (hk : (shp G o).1 = 7 ∧ (shp G o).2 = 20) : wp d 211 908 [l0, l1, l2, l3] (a3 :: a2 :: a1 :: .inr (.inr (some o)) :: [s0]) G h Q = call d 172 [.inr (.inr (some o)), a1, a2, a3] G h (fun r G2 h2 => wp d 211 911 [l0, l1, l2, l3] (pushR r [s0]) G2 h2 Q) := x_inv (virt := 3) (as := [.inr (.inr (some o)), a1, a2, a3]) (rest := [s0]) rfl rfl rfl (Nat.le_of_ble_eq_true rfl) (rcv_ok hk)
set_option maxRecDepth 100000 in
theorem X_211_911 {d : Nat} {l0 l1 l2 l3 : Option AV} {st : List AV} {x y : Int} {G : AG} {h : AH} {Q : Option AV → AG → AH → Prop} (hx : (((-2147483648 ≤ x ∧ x < 2147483648) ∧ (-2147483648 ≤ y ∧ y < 2147483648)) ∨ x = y)) : wp d 211 911 [l0, l1, l2, l3] (.inl y :: .inl x :: st) G h Q = if x = y then wp d 211 1337 [l0, l1, l2, l3] st G h Q else wp d 211 914 [l0, l1, l2, l3] st G h Q := x_icc (x = y) (tst_eq x y) rfl rfl hx
set_option maxRecDepth 100000 in
theorem X_211_911_t {d : Nat} {l0 l1 l2 l3 : Option AV} {st : List AV} {x y : Int} {G : AG} {h : AH} {Q : Option AV → AG → AH → Prop} (hx : (((-2147483648 ≤ x ∧ x < 2147483648) ∧ (-2147483648 ≤ y ∧ y < 2147483648)) ∨ x = y) ∧ x = y) : wp d 211 911 [l0, l1, l2, l3] (.inl y :: .inl x :: st) G h Q = wp d 211 1337 [l0, l1, l2, l3] st G h Q := x_ict (x = y) (tst_eq x y) rfl rfl hx
set_option maxRecDepth 100000 in
theorem X_211_911_f {d : Nat} {l0 l1 l2 l3 : Option AV} {st : List AV} {x y : Int} {G : AG} {h : AH} {Q : Option AV → AG → AH → Prop} (hx : (((-2147483648 ≤ x ∧ x < 2147483648) ∧ (-2147483648 ≤ y ∧ y < 2147483648)) ∨ x = y) ∧ ¬ (x = y)) : wp d 211 911 [l0, l1, l2, l3] (.inl y :: .inl x :: st) G h Q = wp d 211 914 [l0, l1, l2, l3] st G h Q := x_icf (x = y) (tst_eq x y) (tgt := 1337) rfl rfl hx
set_option maxRecDepth 100000 in
theorem X_211_914 {d : Nat} {l0 l1 l2 l3 : Option AV} {st : List AV} {G : AG} {h : AH} {Q : Option AV → AG → AH → Prop} : wp d 211 914 [l0, l1, l2, l3] st G h Q = wp d 211 915 [l0, l1, l2, l3] (.inl 0 :: st) G h Q := wp_nx rfl
set_option maxRecDepth 100000 in
theorem X_211_915 {d : Nat} {l0 l1 l2 l3 : Option AV} {x : Int} {G : AG} {h : AH} {Q : Option AV → AG → AH → Prop} (hx : x = 0 ∨ x = 1) : wp d 211 915 [l0, l1, l2, l3] [.inl x] G h Q = Q (some (.inl x)) G h := x_retZ rfl hx
set_option maxRecDepth 100000 in
theorem X_211_916 {d : Nat} {l0 l2 l3 : Option AV} {st : List AV} {x : Nat} {G : AG} {h : AH} {Q : Option AV → AG → AH → Prop} : wp d 211 916 [l0, some (.inr (.inr (some x))), l2, l3] st G h Q = wp d 211 917 [l0, some (.inr (.inr (some x))), l2, l3] (.inr (.inr (some x)) :: st) G h Q := wp_nx rfl
set_option maxRecDepth 100000 in
theorem X_211_917 {d : Nat} {l1 l2 l3 : Option AV} {st : List AV} {x : Nat} {G : AG} {h : AH} {Q : Option AV → AG → AH → Prop} : wp d 211 917 [some (.inr (.inr (some x))), l1, l2, l3] st G h Q = wp d 211 918 [some (.inr (.inr (some x))), l1, l2, l3] (.inr (.inr (some x)) :: st) G h Q := wp_nx rfl
set_option maxRecDepth 100000 in
theorem X_211_918 {d : Nat} {l0 l1 l2 : Option AV} {st : List AV} {x : Int} {G : AG} {h : AH} {Q : Option AV → AG → AH → Prop} : wp d 211 918 [l0, l1, l2, some (.inl x)] st G h Q = wp d 211 919 [l0, l1, l2, some (.inl x)] (.inl x :: st) G h Q := wp_nx rfl
set_option maxRecDepth 100000 in
theorem X_211_919 {d : Nat} {l0 l1 l2 l3 : Option AV} {st : List AV} {G : AG} {h : AH} {Q : Option AV → AG → AH → Prop} : wp d 211 919 [l0, l1, l2, l3] st G h Q = wp d 211 920 [l0, l1, l2, l3] (.inl 1 :: st) G h Q := wp_nx rfl
set_option maxRecDepth 100000 in
theorem X_211_920 {d : Nat} {l0 l1 l2 l3 : Option AV} {st : List AV} {x y : Int} {G : AG} {h : AH} {Q : Option AV → AG → AH → Prop} : wp d 211 920 [l0, l1, l2, l3] (.inl y :: .inl x :: st) G h Q = wp d 211 921 [l0, l1, l2, l3] (.inl (x + y) :: st) G h Q := wp_nx rfl
set_option maxRecDepth 100000 in
theorem X_211_921 {d : Nat} {l0 l1 l2 l3 : Option AV} {st : List AV} {i : Int} {G : AG} {h : AH} {Q : Option AV → AG → AH → Prop} (hk : 0 ≤ i ∧ i < h 1002 0 ∧ h 1002 0 ≤ 100000) : wp d 211 921 [l0, l1, l2, l3] (.inl i :: .inr (.inr (some 1001)) :: st) G h Q = wp d 211 922 [l0, l1, l2, l3] (.inl (h 1001 i.toNat) :: st) G h Q := x_scr rfl hk
set_option maxRecDepth 100000 in
theorem X_211_922 {d : Nat} {l1 l2 l3 : Option AV} {st : List AV} {x : Nat} {G : AG} {h : AH} {Q : Option AV → AG → AH → Prop} : wp d 211 922 [some (.inr (.inr (some x))), l1, l2, l3] st G h Q = wp d 211 923 [some (.inr (.inr (some x))), l1, l2, l3] (.inr (.inr (some x)) :: st) G h Q := wp_nx rfl
set_option maxRecDepth 100000 in
theorem X_211_923 {d : Nat} {l0 l1 l2 : Option AV} {st : List AV} {x : Int} {G : AG} {h : AH} {Q : Option AV → AG → AH → Prop} : wp d 211 923 [l0, l1, l2, some (.inl x)] st G h Q = wp d 211 924 [l0, l1, l2, some (.inl x)] (.inl x :: st) G h Q := wp_nx rfl
set_option maxRecDepth 100000 in
theorem X_211_924 {d : Nat} {l0 l1 l2 l3 : Option AV} {st : List AV} {G : AG} {h : AH} {Q : Option AV → AG → AH → Prop} : wp d 211 924 [l0, l1, l2, l3] st G h Q = wp d 211 925 [l0, l1, l2, l3] (.inl 2 :: st) G h Q := wp_nx rfl
set_option maxRecDepth 100000 in
theorem X_211_925 {d : Nat} {l0 l1 l2 l3 : Option AV} {st : List AV} {x y : Int} {G : AG} {h : AH} {Q : Option AV → AG → AH → Prop} : wp d 211 925 [l0, l1, l2, l3] (.inl y :: .inl x :: st) G h Q = wp d 211 926 [l0, l1, l2, l3] (.inl (x + y) :: st) G h Q := wp_nx rfl
set_option maxRecDepth 100000 in
theorem X_211_926 {d : Nat} {l0 l1 l2 l3 : Option AV} {st : List AV} {i : Int} {G : AG} {h : AH} {Q : Option AV → AG → AH → Prop} (hk : 0 ≤ i ∧ i < h 1002 0 ∧ h 1002 0 ≤ 100000) : wp d 211 926 [l0, l1, l2, l3] (.inl i :: .inr (.inr (some 1001)) :: st) G h Q = wp d 211 927 [l0, l1, l2, l3] (.inl (h 1001 i.toNat) :: st) G h Q := x_scr rfl hk
set_option maxRecDepth 100000 in
theorem X_211_927 {d : Nat} {l0 l1 l2 l3 : Option AV} {o : Nat} {a1 a2 : AV} {G : AG} {h : AH} {Q : Option AV → AG → AH → Prop} (hk : (shp G o).1 = 6 ∧ (shp G o).2 = 13) : wp d 211 927 [l0, l1, l2, l3] (a2 :: a1 :: .inr (.inr (some o)) :: []) G h Q = call d 61 [.inr (.inr (some o)), a1, a2] G h (fun r G2 h2 => wp d 211 930 [l0, l1, l2, l3] (pushR r []) G2 h2 Q) := x_inv (virt := 2) (as := [.inr (.inr (some o)), a1, a2]) (rest := []) rfl rfl rfl (Nat.le_of_ble_eq_true rfl) (rcv_ok hk)
set_option maxRecDepth 100000 in
theorem X_211_930 {d : Nat} {l0 l1 l3 : Option AV} {st : List AV} {x : Nat} {G : AG} {h : AH} {Q : Option AV → AG → AH → Prop} : wp d 211 930 [l0, l1, some (.inr (.inr (some x))), l3] st G h Q = wp d 211 931 [l0, l1, some (.inr (.inr (some x))), l3] (.inr (.inr (some x)) :: st) G h Q := wp_nx rfl
set_option maxRecDepth 100000 in
theorem X_211_931 {d : Nat} {l1 l2 l3 : Option AV} {st : List AV} {x : Nat} {G : AG} {h : AH} {Q : Option AV → AG → AH → Prop} : wp d 211 931 [some (.inr (.inr (some x))), l1, l2, l3] st G h Q = wp d 211 932 [some (.inr (.inr (some x))), l1, l2, l3] (.inr (.inr (some x)) :: st) G h Q := wp_nx rfl
set_option maxRecDepth 100000 in
theorem X_211_932 {d : Nat} {l0 l1 l2 : Option AV} {st : List AV} {x : Int} {G : AG} {h : AH} {Q : Option AV → AG → AH → Prop} : wp d 211 932 [l0, l1, l2, some (.inl x)] st G h Q = wp d 211 933 [l0, l1, l2, some (.inl x)] (.inl x :: st) G h Q := wp_nx rfl
set_option maxRecDepth 100000 in
theorem X_211_933 {d : Nat} {l0 l1 l2 l3 : Option AV} {st : List AV} {G : AG} {h : AH} {Q : Option AV → AG → AH → Prop} : wp d 211 933 [l0, l1, l2, l3] st G h Q = wp d 211 934 [l0, l1, l2, l3] (.inl 1 :: st) G h Q := wp_nx rfl
set_option maxRecDepth 100000 in
theorem X_211_934 {d : Nat} {l0 l1 l2 l3 : Option AV} {st : List AV} {x y : Int} {G : AG} {h : AH} {Q : Option AV → AG → AH → Prop} : wp d 211 934 [l0, l1, l2, l3] (.inl y :: .inl x :: st) G h Q = wp d 211 935 [l0, l1, l2, l3] (.inl (x + y) :: st) G h Q := wp_nx rfl
set_option maxRecDepth 100000 in
theorem X_211_935 {d : Nat} {l0 l1 l2 l3 : Option AV} {st : List AV} {i : Int} {G : AG} {h : AH} {Q : Option AV → AG → AH → Prop} (hk : 0 ≤ i ∧ i < h 1002 0 ∧ h 1002 0 ≤ 100000) : wp d 211 935 [l0, l1, l2, l3] (.inl i :: .inr (.inr (some 1001)) :: st) G h Q = wp d 211 936 [l0, l1, l2, l3] (.inl (h 1001 i.toNat) :: st) G h Q := x_scr rfl hk
set_option maxRecDepth 100000 in
theorem X_211_936 {d : Nat} {l1 l2 l3 : Option AV} {st : List AV} {x : Nat} {G : AG} {h : AH} {Q : Option AV → AG → AH → Prop} : wp d 211 936 [some (.inr (.inr (some x))), l1, l2, l3] st G h Q = wp d 211 937 [some (.inr (.inr (some x))), l1, l2, l3] (.inr (.inr (some x)) :: st) G h Q := wp_nx rfl
set_option maxRecDepth 100000 in
theorem X_211_937 {d : Nat} {l0 l1 l2 : Option AV} {st : List AV} {x : Int} {G : AG} {h : AH} {Q : Option AV → AG → AH → Prop} : wp d 211 937 [l0, l1, l2, some (.inl x)] st G h Q = wp d 211 938 [l0, l1, l2, some (.inl x)] (.inl x :: st) G h Q := wp_nx rfl
set_option maxRecDepth 100000 in
theorem X_211_938 {d : Nat} {l0 l1 l2 l3 : Option AV} {st : List AV} {G : AG} {h : AH} {Q : Option AV → AG → AH → Prop} : wp d 211 938 [l0, l1, l2, l3] st G h Q = wp d 211 939 [l0, l1, l2, l3] (.inl 2 :: st) G h Q := wp_nx rfl
set_option maxRecDepth 100000 in
theorem X_211_939 {d : Nat} {l0 l1 l2 l3 : Option AV} {st : List AV} {x y : Int} {G : AG} {h : AH} {Q : Option AV → AG → AH → Prop} : wp d 211 939 [l0, l1, l2, l3] (.inl y :: .inl x :: st) G h Q = wp d 211 940 [l0, l1, l2, l3] (.inl (x + y) :: st) G h Q := wp_nx rfl
set_option maxRecDepth 100000 in
theorem X_211_940 {d : Nat} {l0 l1 l2 l3 : Option AV} {st : List AV} {i : Int} {G : AG} {h : AH} {Q : Option AV → AG → AH → Prop} (hk : 0 ≤ i ∧ i < h 1002 0 ∧ h 1002 0 ≤ 100000) : wp d 211 940 [l0, l1, l2, l3] (.inl i :: .inr (.inr (some 1001)) :: st) G h Q = wp d 211 941 [l0, l1, l2, l3] (.inl (h 1001 i.toNat) :: st) G h Q := x_scr rfl hk
set_option maxRecDepth 100000 in
theorem X_211_941 {d : Nat} {l0 l1 l2 l3 : Option AV} {o : Nat} {a1 a2 : AV} {s0 : AV} {G : AG} {h : AH} {Q : Option AV → AG → AH → Prop} (hk : (shp G o).1 = 7 ∧ (shp G o).2 = 20) : wp d 211 941 [l0, l1, l2, l3] (a2 :: a1 :: .inr (.inr (some o)) :: [s0]) G h Q = call d 175 [.inr (.inr (some o)), a1, a2] G h (fun r G2 h2 => wp d 211 944 [l0, l1, l2, l3] (pushR r [s0]) G2 h2 Q) := x_inv (virt := 3) (as := [.inr (.inr (some o)), a1, a2]) (rest := [s0]) rfl rfl rfl (Nat.le_of_ble_eq_true rfl) (rcv_ok hk)
set_option maxRecDepth 100000 in
theorem X_211_944 {d : Nat} {l0 l1 l2 l3 : Option AV} {st : List AV} {x y : Int} {G : AG} {h : AH} {Q : Option AV → AG → AH → Prop} (hx : (((-2147483648 ≤ x ∧ x < 2147483648) ∧ (-2147483648 ≤ y ∧ y < 2147483648)) ∨ x = y)) : wp d 211 944 [l0, l1, l2, l3] (.inl y :: .inl x :: st) G h Q = if x = y then wp d 211 1337 [l0, l1, l2, l3] st G h Q else wp d 211 947 [l0, l1, l2, l3] st G h Q := x_icc (x = y) (tst_eq x y) rfl rfl hx
set_option maxRecDepth 100000 in
theorem X_211_944_t {d : Nat} {l0 l1 l2 l3 : Option AV} {st : List AV} {x y : Int} {G : AG} {h : AH} {Q : Option AV → AG → AH → Prop} (hx : (((-2147483648 ≤ x ∧ x < 2147483648) ∧ (-2147483648 ≤ y ∧ y < 2147483648)) ∨ x = y) ∧ x = y) : wp d 211 944 [l0, l1, l2, l3] (.inl y :: .inl x :: st) G h Q = wp d 211 1337 [l0, l1, l2, l3] st G h Q := x_ict (x = y) (tst_eq x y) rfl rfl hx
set_option maxRecDepth 100000 in
theorem X_211_944_f {d : Nat} {l0 l1 l2 l3 : Option AV} {st : List AV} {x y : Int} {G : AG} {h : AH} {Q : Option AV → AG → AH → Prop} (hx : (((-2147483648 ≤ x ∧ x < 2147483648) ∧ (-2147483648 ≤ y ∧ y < 2147483648)) ∨ x = y) ∧ ¬ (x = y)) : wp d 211 944 [l0, l1, l2, l3] (.inl y :: .inl x :: st) G h Q = wp d 211 947 [l0, l1, l2, l3] st G h Q := x_icf (x = y) (tst_eq x y) (tgt := 1337) rfl rfl hx
set_option maxRecDepth 100000 in
theorem X_211_947 {d : Nat} {l0 l1 l2 l3 : Option AV} {st : List AV} {G : AG} {h : AH} {Q : Option AV → AG → AH → Prop} : wp d 211 947 [l0, l1, l2, l3] st G h Q = wp d 211 948 [l0, l1, l2, l3] (.inl 0 :: st) G h Q := wp_nx rfl
set_option maxRecDepth 100000 in
theorem X_211_948 {d : Nat} {l0 l1 l2 l3 : Option AV} {x : Int} {G : AG} {h : AH} {Q : Option AV → AG → AH → Prop} (hx : x = 0 ∨ x = 1) : wp d 211 948 [l0, l1, l2, l3] [.inl x] G h Q = Q (some (.inl x)) G h := x_retZ rfl hx
set_option maxRecDepth 100000 in
theorem X_211_949 {d : Nat} {l0 l2 l3 : Option AV} {st : List AV} {x : Nat} {G : AG} {h : AH} {Q : Option AV → AG → AH → Prop} : wp d 211 949 [l0, some (.inr (.inr (some x))), l2, l3] st G h Q = wp d 211 950 [l0, some (.inr (.inr (some x))), l2, l3] (.inr (.inr (some x)) :: st) G h Q := wp_nx rfl
set_option maxRecDepth 100000 in
theorem X_211_950 {d : Nat} {l1 l2 l3 : Option AV} {st : List AV} {x : Nat} {G : AG} {h : AH} {Q : Option AV → AG → AH → Prop} : wp d 211 950 [some (.inr (.inr (some x))), l1, l2, l3] st G h Q = wp d 211 951 [some (.inr (.inr (some x))), l1, l2, l3] (.inr (.inr (some x)) :: st) G h Q := wp_nx rfl
set_option maxRecDepth 100000 in
theorem X_211_951 {d : Nat} {l0 l1 l2 : Option AV} {st : List AV} {x : Int} {G : AG} {h : AH} {Q : Option AV → AG → AH → Prop} : wp d 211 951 [l0, l1, l2, some (.inl x)] st G h Q = wp d 211 952 [l0, l1, l2, some (.inl x)] (.inl x :: st) G h Q := wp_nx rfl
set_option maxRecDepth 100000 in
theorem X_211_952 {d : Nat} {l0 l1 l2 l3 : Option AV} {st : List AV} {G : AG} {h : AH} {Q : Option AV → AG → AH → Prop} : wp d 211 952 [l0, l1, l2, l3] st G h Q = wp d 211 953 [l0, l1, l2, l3] (.inl 1 :: st) G h Q := wp_nx rfl
set_option maxRecDepth 100000 in
theorem X_211_953 {d : Nat} {l0 l1 l2 l3 : Option AV} {st : List AV} {x y : Int} {G : AG} {h : AH} {Q : Option AV → AG → AH → Prop} : wp d 211 953 [l0, l1, l2, l3] (.inl y :: .inl x :: st) G h Q = wp d 211 954 [l0, l1, l2, l3] (.inl (x + y) :: st) G h Q := wp_nx rfl
set_option maxRecDepth 100000 in
theorem X_211_954 {d : Nat} {l0 l1 l2 l3 : Option AV} {st : List AV} {i : Int} {G : AG} {h : AH} {Q : Option AV → AG → AH → Prop} (hk : 0 ≤ i ∧ i < h 1002 0 ∧ h 1002 0 ≤ 100000) : wp d 211 954 [l0, l1, l2, l3] (.inl i :: .inr (.inr (some 1001)) :: st) G h Q = wp d 211 955 [l0, l1, l2, l3] (.inl (h 1001 i.toNat) :: st) G h Q := x_scr rfl hk
set_option maxRecDepth 100000 in
theorem X_211_955 {d : Nat} {l0 l1 l2 l3 : Option AV} {o : Nat} {a1 : AV} {G : AG} {h : AH} {Q : Option AV → AG → AH → Prop} (hk : (shp G o).1 = 6 ∧ (shp G o).2 = 13) : wp d 211 955 [l0, l1, l2, l3] (a1 :: .inr (.inr (some o)) :: []) G h Q = call d 62 [.inr (.inr (some o)), a1] G h (fun r G2 h2 => wp d 211 958 [l0, l1, l2, l3] (pushR r []) G2 h2 Q) := x_inv (virt := 2) (as := [.inr (.inr (some o)), a1]) (rest := []) rfl rfl rfl (Nat.le_of_ble_eq_true rfl) (rcv_ok hk)
set_option maxRecDepth 100000 in
theorem X_211_958 {d : Nat} {l0 l1 l3 : Option AV} {st : List AV} {x : Nat} {G : AG} {h : AH} {Q : Option AV → AG → AH → Prop} : wp d 211 958 [l0, l1, some (.inr (.inr (some x))), l3] st G h Q = wp d 211 959 [l0, l1, some (.inr (.inr (some x))), l3] (.inr (.inr (some x)) :: st) G h Q := wp_nx rfl
set_option maxRecDepth 100000 in
theorem X_211_959 {d : Nat} {l1 l2 l3 : Option AV} {st : List AV} {x : Nat} {G : AG} {h : AH} {Q : Option AV → AG → AH → Prop} : wp d 211 959 [some (.inr (.inr (some x))), l1, l2, l3] st G h Q = wp d 211 960 [some (.inr (.inr (some x))), l1, l2, l3] (.inr (.inr (some x)) :: st) G h Q := wp_nx rfl
set_option maxRecDepth 100000 in
theorem X_211_960 {d : Nat} {l0 l1 l2 : Option AV} {st : List AV} {x : Int} {G : AG} {h : AH} {Q : Option AV → AG → AH → Prop} : wp d 211 960 [l0, l1, l2, some (.inl x)] st G h Q = wp d 211 961 [l0, l1, l2, some (.inl x)] (.inl x :: st) G h Q := wp_nx rfl
set_option maxRecDepth 100000 in
theorem X_211_961 {d : Nat} {l0 l1 l2 l3 : Option AV} {st : List AV} {G : AG} {h : AH} {Q : Option AV → AG → AH → Prop} : wp d 211 961 [l0, l1, l2, l3] st G h Q = wp d 211 962 [l0, l1, l2, l3] (.inl 1 :: st) G h Q := wp_nx rfl
set_option maxRecDepth 100000 in
theorem X_211_962 {d : Nat} {l0 l1 l2 l3 : Option AV} {st : List AV} {x y : Int} {G : AG} {h : AH} {Q : Option AV → AG → AH → Prop} : wp d 211 962 [l0, l1, l2, l3] (.inl y :: .inl x :: st) G h Q = wp d 211 963 [l0, l1, l2, l3] (.inl (x + y) :: st) G h Q := wp_nx rfl
set_option maxRecDepth 100000 in
theorem X_211_963 {d : Nat} {l0 l1 l2 l3 : Option AV} {st : List AV} {i : Int} {G : AG} {h : AH} {Q : Option AV → AG → AH → Prop} (hk : 0 ≤ i ∧ i < h 1002 0 ∧ h 1002 0 ≤ 100000) : wp d 211 963 [l0, l1, l2, l3] (.inl i :: .inr (.inr (some 1001)) :: st) G h Q = wp d 211 964 [l0, l1, l2, l3] (.inl (h 1001 i.toNat) :: st) G h Q := x_scr rfl hk
set_option maxRecDepth 100000 in
theorem X_211_964 {d : Nat} {l0 l1 l2 l3 : Option AV} {o : Nat} {a1 : AV} {s0 : AV} {G : AG} {h : AH} {Q : Option AV → AG → AH → Prop} (hk : (shp G o).1 = 7 ∧ (shp G o).2 = 20) : wp d 211 964 [l0, l1, l2, l3] (a1 :: .inr (.inr (some o)) :: [s0]) G h Q = call d 176 [.inr (.inr (some o)), a1] G h (fun r G2 h2 => wp d 211 967 [l0, l1, l2, l3] (pushR r [s0]) G2 h2 Q) := x_inv (virt := 3) (as := [.inr (.inr (some o)), a1]) (rest := [s0]) rfl rfl rfl (Nat.le_of_ble_eq_true rfl) (rcv_ok hk)
set_option maxRecDepth 100000 in
theorem X_211_967 {d : Nat} {l0 l1 l2 l3 : Option AV} {st : List AV} {x y : Int} {G : AG} {h : AH} {Q : Option AV → AG → AH → Prop} (hx : (((-2147483648 ≤ x ∧ x < 2147483648) ∧ (-2147483648 ≤ y ∧ y < 2147483648)) ∨ x = y)) : wp d 211 967 [l0, l1, l2, l3] (.inl y :: .inl x :: st) G h Q = if x = y then wp d 211 1337 [l0, l1, l2, l3] st G h Q else wp d 211 970 [l0, l1, l2, l3] st G h Q := x_icc (x = y) (tst_eq x y) rfl rfl hx
set_option maxRecDepth 100000 in
theorem X_211_967_t {d : Nat} {l0 l1 l2 l3 : Option AV} {st : List AV} {x y : Int} {G : AG} {h : AH} {Q : Option AV → AG → AH → Prop} (hx : (((-2147483648 ≤ x ∧ x < 2147483648) ∧ (-2147483648 ≤ y ∧ y < 2147483648)) ∨ x = y) ∧ x = y) : wp d 211 967 [l0, l1, l2, l3] (.inl y :: .inl x :: st) G h Q = wp d 211 1337 [l0, l1, l2, l3] st G h Q := x_ict (x = y) (tst_eq x y) rfl rfl hx
set_option maxRecDepth 100000 in
theorem X_211_967_f {d : Nat} {l0 l1 l2 l3 : Option AV} {st : List AV} {x y : Int} {G : AG} {h : AH} {Q : Option AV → AG → AH → Prop} (hx : (((-2147483648 ≤ x ∧ x < 2147483648) ∧ (-2147483648 ≤ y ∧ y < 2147483648)) ∨ x = y) ∧ ¬ (x = y)) : wp d 211 967 [l0, l1, l2, l3] (.inl y :: .inl x :: st) G h Q = wp d 211 970 [l0, l1, l2, l3] st G h Q := x_icf (x = y) (tst_eq x y) (tgt := 1337) rfl rfl hx
set_option maxRecDepth 100000 in
theorem X_211_970 {d : Nat} {l0 l1 l2 l3 : Option AV} {st : List AV} {G : AG} {h : AH} {Q : Option AV → AG → AH → Prop} : wp d 211 970 [l0, l1, l2, l3] st G h Q = wp d 211 971 [l0, l1, l2, l3] (.inl 0 :: st) G h Q := wp_nx rfl
set_option maxRecDepth 100000 in
theorem X_211_971 {d : Nat} {l0 l1 l2 l3 : Option AV} {x : Int} {G : AG} {h : AH} {Q : Option AV → AG → AH → Prop} (hx : x = 0 ∨ x = 1) : wp d 211 971 [l0, l1, l2, l3] [.inl x] G h Q = Q (some (.inl x)) G h := x_retZ rfl hx
set_option maxRecDepth 100000 in
theorem X_211_972 {d : Nat} {l0 l2 l3 : Option AV} {st : List AV} {x : Nat} {G : AG} {h : AH} {Q : Option AV → AG → AH → Prop} : wp d 211 972 [l0, some (.inr (.inr (some x))), l2, l3] st G h Q = wp d 211 973 [l0, some (.inr (.inr (some x))), l2, l3] (.inr (.inr (some x)) :: st) G h Q := wp_nx rfl
set_option maxRecDepth 100000 in
theorem X_211_973 {d : Nat} {l1 l2 l3 : Option AV} {st : List AV} {x : Nat} {G : AG} {h : AH} {Q : Option AV → AG → AH → Prop} : wp d 211 973 [some (.inr (.inr (some x))), l1, l2, l3] st G h Q = wp d 211 974 [some (.inr (.inr (some x))), l1, l2, l3] (.inr (.inr (some x)) :: st) G h Q := wp_nx rfl
set_option maxRecDepth 100000 in
theorem X_211_974 {d : Nat} {l0 l1 l2 : Option AV} {st : List AV} {x : Int} {G : AG} {h : AH} {Q : Option AV → AG → AH → Prop} : wp d 211 974 [l0, l1, l2, some (.inl x)] st G h Q = wp d 211 975 [l0, l1, l2, some (.inl x)] (.inl x :: st) G h Q := wp_nx rfl
set_option maxRecDepth 100000 in
theorem X_211_975 {d : Nat} {l0 l1 l2 l3 : Option AV} {st : List AV} {G : AG} {h : AH} {Q : Option AV → AG → AH → Prop} : wp d 211 975 [l0, l1, l2, l3] st G h Q = wp d 211 976 [l0, l1, l2, l3] (.inl 1 :: st) G h Q := wp_nx rfl
set_option maxRecDepth 100000 in
theorem X_211_976 {d : Nat} {l0 l1 l2 l3 : Option AV} {st : List AV} {x y : Int} {G : AG} {h : AH} {Q : Option AV → AG → AH → Prop} : wp d 211 976 [l0, l1, l2, l3] (.inl y :: .inl x :: st) G h Q = wp d 211 977 [l0, l1, l2, l3] (.inl (x + y) :: st) G h Q := wp_nx rfl
set_option maxRecDepth 100000 in
theorem X_211_977 {d : Nat} {l0 l1 l2 l3 : Option AV} {st : List AV} {i : Int} {G : AG} {h : AH} {Q : Option AV → AG → AH → Prop} (hk : 0 ≤ i ∧ i < h 1002 0 ∧ h 1002 0 ≤ 100000) : wp d 211 977 [l0, l1, l2, l3] (.inl i :: .inr (.inr (some 1001)) :: st) G h Q = wp d 211 978 [l0, l1, l2, l3] (.inl (h 1001 i.toNat) :: st) G h Q := x_scr rfl hk
set_option maxRecDepth 100000 in
theorem X_211_978 {d : Nat} {l1 l2 l3 : Option AV} {st : List AV} {x : Nat} {G : AG} {h : AH} {Q : Option AV → AG → AH → Prop} : wp d 211 978 [some (.inr (.inr (some x))), l1, l2, l3] st G h Q = wp d 211 979 [some (.inr (.inr (some x))), l1, l2, l3] (.inr (.inr (some x)) :: st) G h Q := wp_nx rfl
set_option maxRecDepth 100000 in
theorem X_211_979 {d : Nat} {l0 l1 l2 : Option AV} {st : List AV} {x : Int} {G : AG} {h : AH} {Q : Option AV → AG → AH → Prop} : wp d 211 979 [l0, l1, l2, some (.inl x)] st G h Q = wp d 211 980 [l0, l1, l2, some (.inl x)] (.inl x :: st) G h Q := wp_nx rfl
set_option maxRecDepth 100000 in
theorem X_211_980 {d : Nat} {l0 l1 l2 l3 : Option AV} {st : List AV} {G : AG} {h : AH} {Q : Option AV → AG → AH → Prop} : wp d 211 980 [l0, l1, l2, l3] st G h Q = wp d 211 981 [l0, l1, l2, l3] (.inl 2 :: st) G h Q := wp_nx rfl
set_option maxRecDepth 100000 in
theorem X_211_981 {d : Nat} {l0 l1 l2 l3 : Option AV} {st : List AV} {x y : Int} {G : AG} {h : AH} {Q : Option AV → AG → AH → Prop} : wp d 211 981 [l0, l1, l2, l3] (.inl y :: .inl x :: st) G h Q = wp d 211 982 [l0, l1, l2, l3] (.inl (x + y) :: st) G h Q := wp_nx rfl
set_option maxRecDepth 100000 in
theorem X_211_982 {d : Nat} {l0 l1 l2 l3 : Option AV} {st : List AV} {i : Int} {G : AG} {h : AH} {Q : Option AV → AG → AH → Prop} (hk : 0 ≤ i ∧ i < h 1002 0 ∧ h 1002 0 ≤ 100000) : wp d 211 982 [l0, l1, l2, l3] (.inl i :: .inr (.inr (some 1001)) :: st) G h Q = wp d 211 983 [l0, l1, l2, l3] (.inl (h 1001 i.toNat) :: st) G h Q := x_scr rfl hk
set_option maxRecDepth 100000 in
theorem X_211_983 {d : Nat} {l0 l1 l2 l3 : Option AV} {o : Nat} {a1 a2 : AV} {G : AG} {h : AH} {Q : Option AV → AG → AH → Prop} (hk : (shp G o).1 = 6 ∧ (shp G o).2 = 13) : wp d 211 983 [l0, l1, l2, l3] (a2 :: a1 :: .inr (.inr (some o)) :: []) G h Q = call d 63 [.inr (.inr (some o)), a1, a2] G h (fun r G2 h2 => wp d 211 986 [l0, l1, l2, l3] (pushR r []) G2 h2 Q) := x_inv (virt := 2) (as := [.inr (.inr (some o)), a1, a2]) (rest := []) rfl rfl rfl (Nat.le_of_ble_eq_true rfl) (rcv_ok hk)
set_option maxRecDepth 100000 in
theorem X_211_986 {d : Nat} {l0 l1 l3 : Option AV} {st : List AV} {x : Nat} {G : AG} {h : AH} {Q : Option AV → AG → AH → Prop} : wp d 211 986 [l0, l1, some (.inr (.inr (some x))), l3] st G h Q = wp d 211 987 [l0, l1, some (.inr (.inr (some x))), l3] (.inr (.inr (some x)) :: st) G h Q := wp_nx rfl
set_option maxRecDepth 100000 in
theorem X_211_987 {d : Nat} {l1 l2 l3 : Option AV} {st : List AV} {x : Nat} {G : AG} {h : AH} {Q : Option AV → AG → AH → Prop} : wp d 211 987 [some (.inr (.inr (some x))), l1, l2, l3] st G h Q = wp d 211 988 [some (.inr (.inr (some x))), l1, l2, l3] (.inr (.inr (some x)) :: st) G h Q := wp_nx rfl
set_option maxRecDepth 100000 in
theorem X_211_988 {d : Nat} {l0 l1 l2 : Option AV} {st : List AV} {x : Int} {G : AG} {h : AH} {Q : Option AV → AG → AH → Prop} : wp d 211 988 [l0, l1, l2, some (.inl x)] st G h Q = wp d 211 989 [l0, l1, l2, some (.inl x)] (.inl x :: st) G h Q := wp_nx rfl
set_option maxRecDepth 100000 in
theorem X_211_989 {d : Nat} {l0 l1 l2 l3 : Option AV} {st : List AV} {G : AG} {h : AH} {Q : Option AV → AG → AH → Prop} : wp d 211 989 [l0, l1, l2, l3] st G h Q = wp d 211 990 [l0, l1, l2, l3] (.inl 1 :: st) G h Q := wp_nx rfl
set_option maxRecDepth 100000 in
theorem X_211_990 {d : Nat} {l0 l1 l2 l3 : Option AV} {st : List AV} {x y : Int} {G : AG} {h : AH} {Q : Option AV → AG → AH → Prop} : wp d 211 990 [l0, l1, l2, l3] (.inl y :: .inl x :: st) G h Q = wp d 211 991 [l0, l1, l2, l3] (.inl (x + y) :: st) G h Q := wp_nx rfl
set_option maxRecDepth 100000 in
theorem X_211_991 {d : Nat} {l0 l1 l2 l3 : Option AV} {st : List AV} {i : Int} {G : AG} {h : AH} {Q : Option AV → AG → AH → Prop} (hk : 0 ≤ i ∧ i < h 1002 0 ∧ h 1002 0 ≤ 100000) : wp d 211 991 [l0, l1, l2, l3] (.inl i :: .inr (.inr (some 1001)) :: st) G h Q = wp d 211 992 [l0, l1, l2, l3] (.inl (h 1001 i.toNat) :: st) G h Q := x_scr rfl hk
set_option maxRecDepth 100000 in
theorem X_211_992 {d : Nat} {l1 l2 l3 : Option AV} {st : List AV} {x : Nat} {G : AG} {h : AH} {Q : Option AV → AG → AH → Prop} : wp d 211 992 [some (.inr (.inr (some x))), l1, l2, l3] st G h Q = wp d 211 993 [some (.inr (.inr (some x))), l1, l2, l3] (.inr (.inr (some x)) :: st) G h Q := wp_nx rfl
set_option maxRecDepth 100000 in
theorem X_211_993 {d : Nat} {l0 l1 l2 : Option AV} {st : List AV} {x : Int} {G : AG} {h : AH} {Q : Option AV → AG → AH → Prop} : wp d 211 993 [l0, l1, l2, some (.inl x)] st G h Q = wp d 211 994 [l0, l1, l2, some (.inl x)] (.inl x :: st) G h Q := wp_nx rfl
set_option maxRecDepth 100000 in
theorem X_211_994 {d : Nat} {l0 l1 l2 l3 : Option AV} {st : List AV} {G : AG} {h : AH} {Q : Option AV → AG → AH → Prop} : wp d 211 994 [l0, l1, l2, l3] st G h Q = wp d 211 995 [l0, l1, l2, l3] (.inl 2 :: st) G h Q := wp_nx rfl
set_option maxRecDepth 100000 in
theorem X_211_995 {d : Nat} {l0 l1 l2 l3 : Option AV} {st : List AV} {x y : Int} {G : AG} {h : AH} {Q : Option AV → AG → AH → Prop} : wp d 211 995 [l0, l1, l2, l3] (.inl y :: .inl x :: st) G h Q = wp d 211 996 [l0, l1, l2, l3] (.inl (x + y) :: st) G h Q := wp_nx rfl
set_option maxRecDepth 100000 in
theorem X_211_996 {d : Nat} {l0 l1 l2 l3 : Option AV} {st : List AV} {i : Int} {G : AG} {h : AH} {Q : Option AV → AG → AH → Prop} (hk : 0 ≤ i ∧ i < h 1002 0 ∧ h 1002 0 ≤ 100000) : wp d 211 996 [l0, l1, l2, l3] (.inl i :: .inr (.inr (some 1001)) :: st) G h Q = wp d 211 997 [l0, l1, l2, l3] (.inl (h 1001 i.toNat) :: st) G h Q := x_scr rfl hk
set_option maxRecDepth 100000 in
theorem X_211_997 {d : Nat} {l0 l1 l2 l3 : Option AV} {o : Nat} {a1 a2 : AV} {s0 : AV} {G : AG} {h : AH} {Q : Option AV → AG → AH → Prop} (hk : (shp G o).1 = 7 ∧ (shp G o).2 = 20) : wp d 211 997 [l0, l1, l2, l3] (a2 :: a1 :: .inr (.inr (some o)) :: [s0]) G h Q = call d 180 [.inr (.inr (some o)), a1, a2] G h (fun r G2 h2 => wp d 211 1000 [l0, l1, l2, l3] (pushR r [s0]) G2 h2 Q) := x_inv (virt := 3) (as := [.inr (.inr (some o)), a1, a2]) (rest := [s0]) rfl rfl rfl (Nat.le_of_ble_eq_true rfl) (rcv_ok hk)
set_option maxRecDepth 100000 in
theorem X_211_1000 {d : Nat} {l0 l1 l2 l3 : Option AV} {st : List AV} {x y : Int} {G : AG} {h : AH} {Q : Option AV → AG → AH → Prop} (hx : (((-2147483648 ≤ x ∧ x < 2147483648) ∧ (-2147483648 ≤ y ∧ y < 2147483648)) ∨ x = y)) : wp d 211 1000 [l0, l1, l2, l3] (.inl y :: .inl x :: st) G h Q = if x = y then wp d 211 1337 [l0, l1, l2, l3] st G h Q else wp d 211 1003 [l0, l1, l2, l3] st G h Q := x_icc (x = y) (tst_eq x y) rfl rfl hx
set_option maxRecDepth 100000 in
theorem X_211_1000_t {d : Nat} {l0 l1 l2 l3 : Option AV} {st : List AV} {x y : Int} {G : AG} {h : AH} {Q : Option AV → AG → AH → Prop} (hx : (((-2147483648 ≤ x ∧ x < 2147483648) ∧ (-2147483648 ≤ y ∧ y < 2147483648)) ∨ x = y) ∧ x = y) : wp d 211 1000 [l0, l1, l2, l3] (.inl y :: .inl x :: st) G h Q = wp d 211 1337 [l0, l1, l2, l3] st G h Q := x_ict (x = y) (tst_eq x y) rfl rfl hx
set_option maxRecDepth 100000 in
theorem X_211_1000_f {d : Nat} {l0 l1 l2 l3 : Option AV} {st : List AV} {x y : Int} {G : AG} {h : AH} {Q : Option AV → AG → AH → Prop} (hx : (((-2147483648 ≤ x ∧ x < 2147483648) ∧ (-2147483648 ≤ y ∧ y < 2147483648)) ∨ x = y) ∧ ¬ (x = y)) : wp d 211 1000 [l0, l1, l2, l3] (.inl y :: .inl x :: st) G h Q = wp d 211 1003 [l0, l1, l2, l3] st G h Q := x_icf (x = y) (tst_eq x y) (tgt := 1337) rfl rfl hx
set_option maxRecDepth 100000 in
theorem X_211_1003 {d : Nat} {l0 l1 l2 l3 : Option AV} {st : List AV} {G : AG} {h : AH} {Q : Option AV → AG → AH → Prop} : wp d 211 1003 [l0, l1, l2, l3] st G h Q = wp d 211 1004 [l0, l1, l2, l3] (.inl 0 :: st) G h Q := wp_nx rfl
set_option maxRecDepth 100000 in
theorem X_211_1004 {d : Nat} {l0 l1 l2 l3 : Option AV} {x : Int} {G : AG} {h : AH} {Q : Option AV → AG → AH → Prop} (hx : x = 0 ∨ x = 1) : wp d 211 1004 [l0, l1, l2, l3] [.inl x] G h Q = Q (some (.inl x)) G h := x_retZ rfl hx
set_option maxRecDepth 100000 in
theorem X_211_1005 {d : Nat} {l0 l2 l3 : Option AV} {st : List AV} {x : Nat} {G : AG} {h : AH} {Q : Option AV → AG → AH → Prop} : wp d 211 1005 [l0, some (.inr (.inr (some x))), l2, l3] st G h Q = wp d 211 1006 [l0, some (.inr (.inr (some x))), l2, l3] (.inr (.inr (some x)) :: st) G h Q := wp_nx rfl
set_option maxRecDepth 100000 in
theorem X_211_1006 {d : Nat} {l1 l2 l3 : Option AV} {st : List AV} {x : Nat} {G : AG} {h : AH} {Q : Option AV → AG → AH → Prop} : wp d 211 1006 [some (.inr (.inr (some x))), l1, l2, l3] st G h Q = wp d 211 1007 [some (.inr (.inr (some x))), l1, l2, l3] (.inr (.inr (some x)) :: st) G h Q := wp_nx rfl
set_option maxRecDepth 100000 in
theorem X_211_1007 {d : Nat} {l0 l1 l2 : Option AV} {st : List AV} {x : Int} {G : AG} {h : AH} {Q : Option AV → AG → AH → Prop} : wp d 211 1007 [l0, l1, l2, some (.inl x)] st G h Q = wp d 211 1008 [l0, l1, l2, some (.inl x)] (.inl x :: st) G h Q := wp_nx rfl
set_option maxRecDepth 100000 in
theorem X_211_1008 {d : Nat} {l0 l1 l2 l3 : Option AV} {st : List AV} {G : AG} {h : AH} {Q : Option AV → AG → AH → Prop} : wp d 211 1008 [l0, l1, l2, l3] st G h Q = wp d 211 1009 [l0, l1, l2, l3] (.inl 1 :: st) G h Q := wp_nx rfl
set_option maxRecDepth 100000 in
theorem X_211_1009 {d : Nat} {l0 l1 l2 l3 : Option AV} {st : List AV} {x y : Int} {G : AG} {h : AH} {Q : Option AV → AG → AH → Prop} : wp d 211 1009 [l0, l1, l2, l3] (.inl y :: .inl x :: st) G h Q = wp d 211 1010 [l0, l1, l2, l3] (.inl (x + y) :: st) G h Q := wp_nx rfl
set_option maxRecDepth 100000 in
theorem X_211_1010 {d : Nat} {l0 l1 l2 l3 : Option AV} {st : List AV} {i : Int} {G : AG} {h : AH} {Q : Option AV → AG → AH → Prop} (hk : 0 ≤ i ∧ i < h 1002 0 ∧ h 1002 0 ≤ 100000) : wp d 211 1010 [l0, l1, l2, l3] (.inl i :: .inr (.inr (some 1001)) :: st) G h Q = wp d 211 1011 [l0, l1, l2, l3] (.inl (h 1001 i.toNat) :: st) G h Q := x_scr rfl hk
set_option maxRecDepth 100000 in
theorem X_211_1011 {d : Nat} {l1 l2 l3 : Option AV} {st : List AV} {x : Nat} {G : AG} {h : AH} {Q : Option AV → AG → AH → Prop} : wp d 211 1011 [some (.inr (.inr (some x))), l1, l2, l3] st G h Q = wp d 211 1012 [some (.inr (.inr (some x))), l1, l2, l3] (.inr (.inr (some x)) :: st) G h Q := wp_nx rfl
set_option maxRecDepth 100000 in
theorem X_211_1012 {d : Nat} {l0 l1 l2 : Option AV} {st : List AV} {x : Int} {G : AG} {h : AH} {Q : Option AV → AG → AH → Prop} : wp d 211 1012 [l0, l1, l2, some (.inl x)] st G h Q = wp d 211 1013 [l0, l1, l2, some (.inl x)] (.inl x :: st) G h Q := wp_nx rfl
set_option maxRecDepth 100000 in
theorem X_211_1013 {d : Nat} {l0 l1 l2 l3 : Option AV} {st : List AV} {G : AG} {h : AH} {Q : Option AV → AG → AH → Prop} : wp d 211 1013 [l0, l1, l2, l3] st G h Q = wp d 211 1014 [l0, l1, l2, l3] (.inl 2 :: st) G h Q := wp_nx rfl
set_option maxRecDepth 100000 in
theorem X_211_1014 {d : Nat} {l0 l1 l2 l3 : Option AV} {st : List AV} {x y : Int} {G : AG} {h : AH} {Q : Option AV → AG → AH → Prop} : wp d 211 1014 [l0, l1, l2, l3] (.inl y :: .inl x :: st) G h Q = wp d 211 1015 [l0, l1, l2, l3] (.inl (x + y) :: st) G h Q := wp_nx rfl
set_option maxRecDepth 100000 in
theorem X_211_1015 {d : Nat} {l0 l1 l2 l3 : Option AV} {st : List AV} {i : Int} {G : AG} {h : AH} {Q : Option AV → AG → AH → Prop} (hk : 0 ≤ i ∧ i < h 1002 0 ∧ h 1002 0 ≤ 100000) : wp d 211 1015 [l0, l1, l2, l3] (.inl i :: .inr (.inr (some 1001)) :: st) G h Q = wp d 211 1016 [l0, l1, l2, l3] (.inl (h 1001 i.toNat) :: st) G h Q := x_scr rfl hk
set_option maxRecDepth 100000 in
theorem X_211_1016 {d : Nat} {l0 l1 l2 l3 : Option AV} {o : Nat} {a1 a2 : AV} {G : AG} {h : AH} {Q : Option AV → AG → AH → Prop} (hk : (shp G o).1 = 6 ∧ (shp G o).2 = 13) : wp d 211 1016 [l0, l1, l2, l3] (a2 :: a1 :: .inr (.inr (some o)) :: []) G h Q = call d 64 [.inr (.inr (some o)), a1, a2] G h (fun r G2 h2 => wp d 211 1019 [l0, l1, l2, l3] (pushR r []) G2 h2 Q) := x_inv (virt := 2) (as := [.inr (.inr (some o)), a1, a2]) (rest := []) rfl rfl rfl (Nat.le_of_ble_eq_true rfl) (rcv_ok hk)
set_option maxRecDepth 100000 in
theorem X_211_1019 {d : Nat} {l0 l1 l3 : Option AV} {st : List AV} {x : Nat} {G : AG} {h : AH} {Q : Option AV → AG → AH → Prop} : wp d 211 1019 [l0, l1, some (.inr (.inr (some x))), l3] st G h Q = wp d 211 1020 [l0, l1, some (.inr (.inr (some x))), l3] (.inr (.inr (some x)) :: st) G h Q := wp_nx rfl
set_option maxRecDepth 100000 in
theorem X_211_1020 {d : Nat} {l1 l2 l3 : Option AV} {st : List AV} {x : Nat} {G : AG} {h : AH} {Q : Option AV → AG → AH → Prop} : wp d 211 1020 [some (.inr (.inr (some x))), l1, l2, l3] st G h Q = wp d 211 1021 [some (.inr (.inr (some x))), l1, l2, l3] (.inr (.inr (some x)) :: st) G h Q := wp_nx rfl
set_option maxRecDepth 100000 in
theorem X_211_1021 {d : Nat} {l0 l1 l2 : Option AV} {st : List AV} {x : Int} {G : AG} {h : AH} {Q : Option AV → AG → AH → Prop} : wp d 211 1021 [l0, l1, l2, some (.inl x)] st G h Q = wp d 211 1022 [l0, l1, l2, some (.inl x)] (.inl x :: st) G h Q := wp_nx rfl
set_option maxRecDepth 100000 in
theorem X_211_1022 {d : Nat} {l0 l1 l2 l3 : Option AV} {st : List AV} {G : AG} {h : AH} {Q : Option AV → AG → AH → Prop} : wp d 211 1022 [l0, l1, l2, l3] st G h Q = wp d 211 1023 [l0, l1, l2, l3] (.inl 1 :: st) G h Q := wp_nx rfl
set_option maxRecDepth 100000 in
theorem X_211_1023 {d : Nat} {l0 l1 l2 l3 : Option AV} {st : List AV} {x y : Int} {G : AG} {h : AH} {Q : Option AV → AG → AH → Prop} : wp d 211 1023 [l0, l1, l2, l3] (.inl y :: .inl x :: st) G h Q = wp d 211 1024 [l0, l1, l2, l3] (.inl (x + y) :: st) G h Q := wp_nx rfl
set_option maxRecDepth 100000 in
theorem X_211_1024 {d : Nat} {l0 l1 l2 l3 : Option AV} {st : List AV} {i : Int} {G : AG} {h : AH} {Q : Option AV → AG → AH → Prop} (hk : 0 ≤ i ∧ i < h 1002 0 ∧ h 1002 0 ≤ 100000) : wp d 211 1024 [l0, l1, l2, l3] (.inl i :: .inr (.inr (some 1001)) :: st) G h Q = wp d 211 1025 [l0, l1, l2, l3] (.inl (h 1001 i.toNat) :: st) G h Q := x_scr rfl hk
set_option maxRecDepth 100000 in
theorem X_211_1025 {d : Nat} {l1 l2 l3 : Option AV} {st : List AV} {x : Nat} {G : AG} {h : AH} {Q : Option AV → AG → AH → Prop} : wp d 211 1025 [some (.inr (.inr (some x))), l1, l2, l3] st G h Q = wp d 211 1026 [some (.inr (.inr (some x))), l1, l2, l3] (.inr (.inr (some x)) :: st) G h Q := wp_nx rfl
set_option maxRecDepth 100000 in
theorem X_211_1026 {d : Nat} {l0 l1 l2 : Option AV} {st : List AV} {x : Int} {G : AG} {h : AH} {Q : Option AV → AG → AH → Prop} : wp d 211 1026 [l0, l1, l2, some (.inl x)] st G h Q = wp d 211 1027 [l0, l1, l2, some (.inl x)] (.inl x :: st) G h Q := wp_nx rfl
set_option maxRecDepth 100000 in
theorem X_211_1027 {d : Nat} {l0 l1 l2 l3 : Option AV} {st : List AV} {G : AG} {h : AH} {Q : Option AV → AG → AH → Prop} : wp d 211 1027 [l0, l1, l2, l3] st G h Q = wp d 211 1028 [l0, l1, l2, l3] (.inl 2 :: st) G h Q := wp_nx rfl
set_option maxRecDepth 100000 in
theorem X_211_1028 {d : Nat} {l0 l1 l2 l3 : Option AV} {st : List AV} {x y : Int} {G : AG} {h : AH} {Q : Option AV → AG → AH → Prop} : wp d 211 1028 [l0, l1, l2, l3] (.inl y :: .inl x :: st) G h Q = wp d 211 1029 [l0, l1, l2, l3] (.inl (x + y) :: st) G h Q := wp_nx rfl
set_option maxRecDepth 100000 in
theorem X_211_1029 {d : Nat} {l0 l1 l2 l3 : Option AV} {st : List AV} {i : Int} {G : AG} {h : AH} {Q : Option AV → AG → AH → Prop} (hk : 0 ≤ i ∧ i < h 1002 0 ∧ h 1002 0 ≤ 100000) : wp d 211 1029 [l0, l1, l2, l3] (.inl i :: .inr (.inr (some 1001)) :: st) G h Q = wp d 211 1030 [l0, l1, l2, l3] (.inl (h 1001 i.toNat) :: st) G h Q := x_scr rfl hk
set_option maxRecDepth 100000 in
theorem X_211_1030 {d : Nat} {l0 l1 l2 l3 : Option AV} {o : Nat} {a1 a2 : AV} {s0 : AV} {G : AG} {h : AH} {Q : Option AV → AG → AH → Prop} (hk : (shp G o).1 = 7 ∧ (shp G o).2 = 20) : wp d 211 1030 [l0, l1, l2, l3] (a2 :: a1 :: .inr (.inr (some o)) :: [s0]) G h Q = call d 181 [.inr (.inr (some o)), a1, a2] G h (fun r G2 h2 => wp d 211 1033 [l0, l1, l2, l3] (pushR r [s0]) G2 h2 Q) := x_inv (virt := 3) (as := [.inr (.inr (some o)), a1, a2]) (rest := [s0]) rfl rfl rfl (Nat.le_of_ble_eq_true rfl) (rcv_ok hk)
set_option maxRecDepth 100000 in
theorem X_211_1033 {d : Nat} {l0 l1 l2 l3 : Option AV} {st : List AV} {x y : Int} {G : AG} {h : AH} {Q : Option AV → AG → AH → Prop} (hx : (((-2147483648 ≤ x ∧ x < 2147483648) ∧ (-2147483648 ≤ y ∧ y < 2147483648)) ∨ x = y)) : wp d 211 1033 [l0, l1, l2, l3] (.inl y :: .inl x :: st) G h Q = if x = y then wp d 211 1337 [l0, l1, l2, l3] st G h Q else wp d 211 1036 [l0, l1, l2, l3] st G h Q := x_icc (x = y) (tst_eq x y) rfl rfl hx
set_option maxRecDepth 100000 in
theorem X_211_1033_t {d : Nat} {l0 l1 l2 l3 : Option AV} {st : List AV} {x y : Int} {G : AG} {h : AH} {Q : Option AV → AG → AH → Prop} (hx : (((-2147483648 ≤ x ∧ x < 2147483648) ∧ (-2147483648 ≤ y ∧ y < 2147483648)) ∨ x = y) ∧ x = y) : wp d 211 1033 [l0, l1, l2, l3] (.inl y :: .inl x :: st) G h Q = wp d 211 1337 [l0, l1, l2, l3] st G h Q := x_ict (x = y) (tst_eq x y) rfl rfl hx
set_option maxRecDepth 100000 in
theorem X_211_1033_f {d : Nat} {l0 l1 l2 l3 : Option AV} {st : List AV} {x y : Int} {G : AG} {h : AH} {Q : Option AV → AG → AH → Prop} (hx : (((-2147483648 ≤ x ∧ x < 2147483648) ∧ (-2147483648 ≤ y ∧ y < 2147483648)) ∨ x = y) ∧ ¬ (x = y)) : wp d 211 1033 [l0, l1, l2, l3] (.inl y :: .inl x :: st) G h Q = wp d 211 1036 [l0, l1, l2, l3] st G h Q := x_icf (x = y) (tst_eq x y) (tgt := 1337) rfl rfl hx
set_option maxRecDepth 100000 in
theorem X_211_1036 {d : Nat} {l0 l1 l2 l3 : Option AV} {st : List AV} {G : AG} {h : AH} {Q : Option AV → AG → AH → Prop} : wp d 211 1036 [l0, l1, l2, l3] st G h Q = wp d 211 1037 [l0, l1, l2, l3] (.inl 0 :: st) G h Q := wp_nx rfl
set_option maxRecDepth 100000 in
theorem X_211_1037 {d : Nat} {l0 l1 l2 l3 : Option AV} {x : Int} {G : AG} {h : AH} {Q : Option AV → AG → AH → Prop} (hx : x = 0 ∨ x = 1) : wp d 211 1037 [l0, l1, l2, l3] [.inl x] G h Q = Q (some (.inl x)) G h := x_retZ rfl hx
set_option maxRecDepth 100000 in
theorem X_211_1038 {d : Nat} {l0 l2 l3 : Option AV} {st : List AV} {x : Nat} {G : AG} {h : AH} {Q : Option AV → AG → AH → Prop} : wp d 211 1038 [l0, some (.inr (.inr (some x))), l2, l3] st G h Q = wp d 211 1039 [l0, some (.inr (.inr (some x))), l2, l3] (.inr (.inr (some x)) :: st) G h Q := wp_nx rfl
set_option maxRecDepth 100000 in
theorem X_211_1039 {d : Nat} {l1 l2 l3 : Option AV} {st : List AV} {x : Nat} {G : AG} {h : AH} {Q : Option AV → AG → AH → Prop} : wp d 211 1039 [some (.inr (.inr (some x))), l1, l2, l3] st G h Q = wp d 211 1040 [some (.inr (.inr (some x))), l1, l2, l3] (.inr (.inr (some x)) :: st) G h Q := wp_nx rfl
set_option maxRecDepth 100000 in
theorem X_211_1040 {d : Nat} {l0 l1 l2 : Option AV} {st : List AV} {x : Int} {G : AG} {h : AH} {Q : Option AV → AG → AH → Prop} : wp d 211 1040 [l0, l1, l2, some (.inl x)] st G h Q = wp d 211 1041 [l0, l1, l2, some (.inl x)] (.inl x :: st) G h Q := wp_nx rfl
set_option maxRecDepth 100000 in
theorem X_211_1041 {d : Nat} {l0 l1 l2 l3 : Option AV} {st : List AV} {G : AG} {h : AH} {Q : Option AV → AG → AH → Prop} : wp d 211 1041 [l0, l1, l2, l3] st G h Q = wp d 211 1042 [l0, l1, l2, l3] (.inl 1 :: st) G h Q := wp_nx rfl
set_option maxRecDepth 100000 in
theorem X_211_1042 {d : Nat} {l0 l1 l2 l3 : Option AV} {st : List AV} {x y : Int} {G : AG} {h : AH} {Q : Option AV → AG → AH → Prop} : wp d 211 1042 [l0, l1, l2, l3] (.inl y :: .inl x :: st) G h Q = wp d 211 1043 [l0, l1, l2, l3] (.inl (x + y) :: st) G h Q := wp_nx rfl
set_option maxRecDepth 100000 in
theorem X_211_1043 {d : Nat} {l0 l1 l2 l3 : Option AV} {st : List AV} {i : Int} {G : AG} {h : AH} {Q : Option AV → AG → AH → Prop} (hk : 0 ≤ i ∧ i < h 1002 0 ∧ h 1002 0 ≤ 100000) : wp d 211 1043 [l0, l1, l2, l3] (.inl i :: .inr (.inr (some 1001)) :: st) G h Q = wp d 211 1044 [l0, l1, l2, l3] (.inl (h 1001 i.toNat) :: st) G h Q := x_scr rfl hk
set_option maxRecDepth 100000 in
theorem X_211_1044 {d : Nat} {l1 l2 l3 : Option AV} {st : List AV} {x : Nat} {G : AG} {h : AH} {Q : Option AV → AG → AH → Prop} : wp d 211 1044 [some (.inr (.inr (some x))), l1, l2, l3] st G h Q = wp d 211 1045 [some (.inr (.inr (some x))), l1, l2, l3] (.inr (.inr (some x)) :: st) G h Q := wp_nx rfl
set_option maxRecDepth 100000 in
theorem X_211_1045 {d : Nat} {l0 l1 l2 : Option AV} {st : List AV} {x : Int} {G : AG} {h : AH} {Q : Option AV → AG → AH → Prop} : wp d 211 1045 [l0, l1, l2, some (.inl x)] st G h Q = wp d 211 1046 [l0, l1, l2, some (.inl x)] (.inl x :: st) G h Q := wp_nx rfl
set_option maxRecDepth 100000 in
theorem X_211_1046 {d : Nat} {l0 l1 l2 l3 : Option AV} {st : List AV} {G : AG} {h : AH} {Q : Option AV → AG → AH → Prop} : wp d 211 1046 [l0, l1, l2, l3] st G h Q = wp d 211 1047 [l0, l1, l2, l3] (.inl 2 :: st) G h Q := wp_nx rfl
set_option maxRecDepth 100000 in
theorem X_211_1047 {d : Nat} {l0 l1 l2 l3 : Option AV} {st : List AV} {x y : Int} {G : AG} {h : AH} {Q : Option AV → AG → AH → Prop} : wp d 211 1047 [l0, l1, l2, l3] (.inl y :: .inl x :: st) G h Q = wp d 211 1048 [l0, l1, l2, l3] (.inl (x + y) :: st) G h Q := wp_nx rfl
set_option maxRecDepth 100000 in
theorem X_211_1048 {d : Nat} {l0 l1 l2 l3 : Option AV} {st : List AV} {i : Int} {G : AG} {h : AH} {Q : Option AV → AG → AH → Prop} (hk : 0 ≤ i ∧ i < h 1002 0 ∧ h 1002 0 ≤ 100000) : wp d 211 1048 [l0, l1, l2, l3] (.inl i :: .inr (.inr (some 1001)) :: st) G h Q = wp d 211 1049 [l0, l1, l2, l3] (.inl (h 1001 i.toNat) :: st) G h Q := x_scr rfl hk
set_option maxRecDepth 100000 in
theorem X_211_1049 {d : Nat} {l0 l1 l2 l3 : Option AV} {o : Nat} {a1 a2 : AV} {G : AG} {h : AH} {Q : Option AV → AG → AH → Prop} (hk : (shp G o).1 = 6 ∧ (shp G o).2 = 13) : wp d 211 1049 [l0, l1, l2, l3] (a2 :: a1 :: .inr (.inr (some o)) :: []) G h Q = call d 65 [.inr (.inr (some o)), a1, a2] G h (fun r G2 h2 => wp d 211 1052 [l0, l1, l2, l3] (pushR r []) G2 h2 Q) := x_inv (virt := 2) (as := [.inr (.inr (some o)), a1, a2]) (rest := []) rfl rfl rfl (Nat.le_of_ble_eq_true rfl) (rcv_ok hk)
set_option maxRecDepth 100000 in
theorem X_211_1052 {d : Nat} {l0 l1 l3 : Option AV} {st : List AV} {x : Nat} {G : AG} {h : AH} {Q : Option AV → AG → AH → Prop} : wp d 211 1052 [l0, l1, some (.inr (.inr (some x))), l3] st G h Q = wp d 211 1053 [l0, l1, some (.inr (.inr (some x))), l3] (.inr (.inr (some x)) :: st) G h Q := wp_nx rfl
set_option maxRecDepth 100000 in
theorem X_211_1053 {d : Nat} {l1 l2 l3 : Option AV} {st : List AV} {x : Nat} {G : AG} {h : AH} {Q : Option AV → AG → AH → Prop} : wp d 211 1053 [some (.inr (.inr (some x))), l1, l2, l3] st G h Q = wp d 211 1054 [some (.inr (.inr (some x))), l1, l2, l3] (.inr (.inr (some x)) :: st) G h Q := wp_nx rfl
set_option maxRecDepth 100000 in
theorem X_211_1054 {d : Nat} {l0 l1 l2 : Option AV} {st : List AV} {x : Int} {G : AG} {h : AH} {Q : Option AV → AG → AH → Prop} : wp d 211 1054 [l0, l1, l2, some (.inl x)] st G h Q = wp d 211 1055 [l0, l1, l2, some (.inl x)] (.inl x :: st) G h Q := wp_nx rfl
set_option maxRecDepth 100000 in
theorem X_211_1055 {d : Nat} {l0 l1 l2 l3 : Option AV} {st : List AV} {G : AG} {h : AH} {Q : Option AV → AG → AH → Prop} : wp d 211 1055 [l0, l1, l2, l3] st G h Q = wp d 211 1056 [l0, l1, l2, l3] (.inl 1 :: st) G h Q := wp_nx rfl
set_option maxRecDepth 100000 in
theorem X_211_1056 {d : Nat} {l0 l1 l2 l3 : Option AV} {st : List AV} {x y : Int} {G : AG} {h : AH} {Q : Option AV → AG → AH → Prop} : wp d 211 1056 [l0, l1, l2, l3] (.inl y :: .inl x :: st) G h Q = wp d 211 1057 [l0, l1, l2, l3] (.inl (x + y) :: st) G h Q := wp_nx rfl
set_option maxRecDepth 100000 in
theorem X_211_1057 {d : Nat} {l0 l1 l2 l3 : Option AV} {st : List AV} {i : Int} {G : AG} {h : AH} {Q : Option AV → AG → AH → Prop} (hk : 0 ≤ i ∧ i < h 1002 0 ∧ h 1002 0 ≤ 100000) : wp d 211 1057 [l0, l1, l2, l3] (.inl i :: .inr (.inr (some 1001)) :: st) G h Q = wp d 211 1058 [l0, l1, l2, l3] (.inl (h 1001 i.toNat) :: st) G h Q := x_scr rfl hk
set_option maxRecDepth 100000 in
theorem X_211_1058 {d : Nat} {l1 l2 l3 : Option AV} {st : List AV} {x : Nat} {G : AG} {h : AH} {Q : Option AV → AG → AH → Prop} : wp d 211 1058 [some (.inr (.inr (some x))), l1, l2, l3] st G h Q = wp d 211 1059 [some (.inr (.inr (some x))), l1, l2, l3] (.inr (.inr (some x)) :: st) G h Q := wp_nx rfl
set_option maxRecDepth 100000 in
theorem X_211_1059 {d : Nat} {l0 l1 l2 : Option AV} {st : List AV} {x : Int} {G : AG} {h : AH} {Q : Option AV → AG → AH → Prop} : wp d 211 1059 [l0, l1, l2, some (.inl x)] st G h Q = wp d 211 1060 [l0, l1, l2, some (.inl x)] (.inl x :: st) G h Q := wp_nx rfl
set_option maxRecDepth 100000 in
theorem X_211_1060 {d : Nat} {l0 l1 l2 l3 : Option AV} {st : List AV} {G : AG} {h : AH} {Q : Option AV → AG → AH → Prop} : wp d 211 1060 [l0, l1, l2, l3] st G h Q = wp d 211 1061 [l0, l1, l2, l3] (.inl 2 :: st) G h Q := wp_nx rfl
set_option maxRecDepth 100000 in
theorem X_211_1061 {d : Nat} {l0 l1 l2 l3 : Option AV} {st : List AV} {x y : Int} {G : AG} {h : AH} {Q : Option AV → AG → AH → Prop} : wp d 211 1061 [l0, l1, l2, l3] (.inl y :: .inl x :: st) G h Q = wp d 211 1062 [l0, l1, l2, l3] (.inl (x + y) :: st) G h Q := wp_nx rfl
set_option maxRecDepth 100000 in
theorem X_211_1062 {d : Nat} {l0 l1 l2 l3 : Option AV} {st : List AV} {i : Int} {G : AG} {h : AH} {Q : Option AV → AG → AH → Prop} (hk : 0 ≤ i ∧ i < h 1002 0 ∧ h 1002 0 ≤ 100000) : wp d 211 1062 [l0, l1, l2, l3] (.inl i :: .inr (.inr (some 1001)) :: st) G h Q = wp d 211 1063 [l0, l1, l2, l3] (.inl (h 1001 i.toNat) :: st) G h Q := x_scr rfl hk
set_option maxRecDepth 100000 in
theorem X_211_1063 {d : Nat} {l0 l1 l2 l3 : Option AV} {o : Nat} {a1 a2 : AV} {s0 : AV} {G : AG} {h : AH} {Q : Option AV → AG → AH → Prop} (hk : (shp G o).1 = 7 ∧ (shp G o).2 = 20) : wp d 211 1063 [l0, l1, l2, l3] (a2 :: a1 :: .inr (.inr (some o)) :: [s0]) G h Q = call d 183 [.inr (.inr (some o)), a1, a2] G h (fun r G2 h2 => wp d 211 1066 [l0, l1, l2, l3] (pushR r [s0]) G2 h2 Q) := x_inv (virt := 3) (as := [.inr (.inr (some o)), a1, a2]) (rest := [s0]) rfl rfl rfl (Nat.le_of_ble_eq_true rfl) (rcv_ok hk)
set_option maxRecDepth 100000 in
theorem X_211_1066 {d : Nat} {l0 l1 l2 l3 : Option AV} {st : List AV} {x y : Int} {G : AG} {h : AH} {Q : Option AV → AG → AH → Prop} (hx : (((-2147483648 ≤ x ∧ x < 2147483648) ∧ (-2147483648 ≤ y ∧ y < 2147483648)) ∨ x = y)) : wp d 211 1066 [l0, l1, l2, l3] (.inl y :: .inl x :: st) G h Q = if x = y then wp d 211 1337 [l0, l1, l2, l3] st G h Q else wp d 211 1069 [l0, l1, l2, l3] st G h Q := x_icc (x = y) (tst_eq x y) rfl rfl hx
set_option maxRecDepth 100000 in
theorem X_211_1066_t {d : Nat} {l0 l1 l2 l3 : Option AV} {st : List AV} {x y : Int} {G : AG} {h : AH} {Q : Option AV → AG → AH → Prop} (hx : (((-2147483648 ≤ x ∧ x < 2147483648) ∧ (-2147483648 ≤ y ∧ y < 2147483648)) ∨ x = y) ∧ x = y) : wp d 211 1066 [l0, l1, l2, l3] (.inl y :: .inl x :: st) G h Q = wp d 211 1337 [l0, l1, l2, l3] st G h Q := x_ict (x = y) (tst_eq x y) rfl rfl hx
set_option maxRecDepth 100000 in
theorem X_211_1066_f {d : Nat} {l0 l1 l2 l3 : Option AV} {st : List AV} {x y : Int} {G : AG} {h : AH} {Q : Option AV → AG → AH → Prop} (hx : (((-2147483648 ≤ x ∧ x < 2147483648) ∧ (-2147483648 ≤ y ∧ y < 2147483648)) ∨ x = y) ∧ ¬ (x = y)) : wp d 211 1066 [l0, l1, l2, l3] (.inl y :: .inl x :: st) G h Q = wp d 211 1069 [l0, l1, l2, l3] st G h Q := x_icf (x = y) (tst_eq x y) (tgt := 1337) rfl rfl hx
set_option maxRecDepth 100000 in
theorem X_211_1069 {d : Nat} {l0 l1 l2 l3 : Option AV} {st : List AV} {G : AG} {h : AH} {Q : Option AV → AG → AH → Prop} : wp d 211 1069 [l0, l1, l2, l3] st G h Q = wp d 211 1070 [l0, l1, l2, l3] (.inl 0 :: st) G h Q := wp_nx rfl
set_option maxRecDepth 100000 in
theorem X_211_1070 {d : Nat} {l0 l1 l2 l3 : Option AV} {x : Int} {G : AG} {h : AH} {Q : Option AV → AG → AH → Prop} (hx : x = 0 ∨ x = 1) : wp d 211 1070 [l0, l1, l2, l3] [.inl x] G h Q = Q (some (.inl x)) G h := x_retZ rfl hx
set_option maxRecDepth 100000 in
theorem X_211_1071 {d : Nat} {l0 l2 l3 : Option AV} {st : List AV} {x : Nat} {G : AG} {h : AH} {Q : Option AV → AG → AH → Prop} : wp d 211 1071 [l0, some (.inr (.inr (some x))), l2, l3] st G h Q = wp d 211 1072 [l0, some (.inr (.inr (some x))), l2, l3] (.inr (.inr (some x)) :: st) G h Q := wp_nx rfl
set_option maxRecDepth 100000 in
theorem X_211_1072 {d : Nat} {l1 l2 l3 : Option AV} {st : List AV} {x : Nat} {G : AG} {h : AH} {Q : Option AV → AG → AH → Prop} : wp d 211 1072 [some (.inr (.inr (some x))), l1, l2, l3] st G h Q = wp d 211 1073 [some (.inr (.inr (some x))), l1, l2, l3] (.inr (.inr (some x)) :: st) G h Q := wp_nx rfl
set_option maxRecDepth 100000 in
theorem X_211_1073 {d : Nat} {l0 l1 l2 : Option AV} {st : List AV} {x : Int} {G : AG} {h : AH} {Q : Option AV → AG → AH → Prop} : wp d 211 1073 [l0, l1, l2, some (.inl x)] st G h Q = wp d 211 1074 [l0, l1, l2, some (.inl x)] (.inl x :: st) G h Q := wp_nx rfl
set_option maxRecDepth 100000 in
theorem X_211_1074 {d : Nat} {l0 l1 l2 l3 : Option AV} {st : List AV} {G : AG} {h : AH} {Q : Option AV → AG → AH → Prop} : wp d 211 1074 [l0, l1, l2, l3] st G h Q = wp d 211 1075 [l0, l1, l2, l3] (.inl 1 :: st) G h Q := wp_nx rfl
set_option maxRecDepth 100000 in
theorem X_211_1075 {d : Nat} {l0 l1 l2 l3 : Option AV} {st : List AV} {x y : Int} {G : AG} {h : AH} {Q : Option AV → AG → AH → Prop} : wp d 211 1075 [l0, l1, l2, l3] (.inl y :: .inl x :: st) G h Q = wp d 211 1076 [l0, l1, l2, l3] (.inl (x + y) :: st) G h Q := wp_nx rfl
set_option maxRecDepth 100000 in
theorem X_211_1076 {d : Nat} {l0 l1 l2 l3 : Option AV} {st : List AV} {i : Int} {G : AG} {h : AH} {Q : Option AV → AG → AH → Prop} (hk : 0 ≤ i ∧ i < h 1002 0 ∧ h 1002 0 ≤ 100000) : wp d 211 1076 [l0, l1, l2, l3] (.inl i :: .inr (.inr (some 1001)) :: st) G h Q = wp d 211 1077 [l0, l1, l2, l3] (.inl (h 1001 i.toNat) :: st) G h Q := x_scr rfl hk
set_option maxRecDepth 100000 in
theorem X_211_1077 {d : Nat} {l0 l1 l2 l3 : Option AV} {o : Nat} {a1 : AV} {G : AG} {h : AH} {Q : Option AV → AG → AH → Prop} (hk : (shp G o).1 = 6 ∧ (shp G o).2 = 13) : wp d 211 1077 [l0, l1, l2, l3] (a1 :: .inr (.inr (some o)) :: []) G h Q = call d 66 [.inr (.inr (some o)), a1] G h (fun r G2 h2 => wp d 211 1080 [l0, l1, l2, l3] (pushR r []) G2 h2 Q) := x_inv (virt := 2) (as := [.inr (.inr (some o)), a1]) (rest := []) rfl rfl rfl (Nat.le_of_ble_eq_true rfl) (rcv_ok hk)
set_option maxRecDepth 100000 in
theorem X_211_1080 {d : Nat} {l0 l1 l3 : Option AV} {st : List AV} {x : Nat} {G : AG} {h : AH} {Q : Option AV → AG → AH → Prop} : wp d 211 1080 [l0, l1, some (.inr (.inr (some x))), l3] st G h Q = wp d 211 1081 [l0, l1, some (.inr (.inr (some x))), l3] (.inr (.inr (some x)) :: st) G h Q := wp_nx rfl
set_option maxRecDepth 100000 in
theorem X_211_1081 {d : Nat} {l1 l2 l3 : Option AV} {st : List AV} {x : Nat} {G : AG} {h : AH} {Q : Option AV → AG → AH → Prop} : wp d 211 1081 [some (.inr (.inr (some x))), l1, l2, l3] st G h Q = wp d 211 1082 [some (.inr (.inr (some x))), l1, l2, l3] (.inr (.inr (some x)) :: st) G h Q := wp_nx rfl
set_option maxRecDepth 100000 in
theorem X_211_1082 {d : Nat} {l0 l1 l2 : Option AV} {st : List AV} {x : Int} {G : AG} {h : AH} {Q : Option AV → AG → AH → Prop} : wp d 211 1082 [l0, l1, l2, some (.inl x)] st G h Q = wp d 211 1083 [l0, l1, l2, some (.inl x)] (.inl x :: st) G h Q := wp_nx rfl
set_option maxRecDepth 100000 in
theorem X_211_1083 {d : Nat} {l0 l1 l2 l3 : Option AV} {st : List AV} {G : AG} {h : AH} {Q : Option AV → AG → AH → Prop} : wp d 211 1083 [l0, l1, l2, l3] st G h Q = wp d 211 1084 [l0, l1, l2, l3] (.inl 1 :: st) G h Q := wp_nx rfl
set_option maxRecDepth 100000 in
theorem X_211_1084 {d : Nat} {l0 l1 l2 l3 : Option AV} {st : List AV} {x y : Int} {G : AG} {h : AH} {Q : Option AV → AG → AH → Prop} : wp d 211 1084 [l0, l1, l2, l3] (.inl y :: .inl x :: st) G h Q = wp d 211 1085 [l0, l1, l2, l3] (.inl (x + y) :: st) G h Q := wp_nx rfl
set_option maxRecDepth 100000 in
theorem X_211_1085 {d : Nat} {l0 l1 l2 l3 : Option AV} {st : List AV} {i : Int} {G : AG} {h : AH} {Q : Option AV → AG → AH → Prop} (hk : 0 ≤ i ∧ i < h 1002 0 ∧ h 1002 0 ≤ 100000) : wp d 211 1085 [l0, l1, l2, l3] (.inl i :: .inr (.inr (some 1001)) :: st) G h Q = wp d 211 1086 [l0, l1, l2, l3] (.inl (h 1001 i.toNat) :: st) G h Q := x_scr rfl hk
set_option maxRecDepth 100000 in
theorem X_211_1086 {d : Nat} {l0 l1 l2 l3 : Option AV} {o : Nat} {a1 : AV} {s0 : AV} {G : AG} {h : AH} {Q : Option AV → AG → AH → Prop} (hk : (shp G o).1 = 7 ∧ (shp G o).2 = 20) : wp d 211 1086 [l0, l1, l2, l3] (a1 :: .inr (.inr (some o)) :: [s0]) G h Q = call d 188 [.inr (.inr (some o)), a1] G h (fun r G2 h2 => wp d 211 1089 [l0, l1, l2, l3] (pushR r [s0]) G2 h2 Q) := x_inv (virt := 3) (as := [.inr (.inr (some o)), a1]) (rest := [s0]) rfl rfl rfl (Nat.le_of_ble_eq_true rfl) (rcv_ok hk)
set_option maxRecDepth 100000 in
theorem X_211_1089 {d : Nat} {l0 l1 l2 l3 : Option AV} {st : List AV} {x y : Int} {G : AG} {h : AH} {Q : Option AV → AG → AH → Prop} (hx : (((-2147483648 ≤ x ∧ x < 2147483648) ∧ (-2147483648 ≤ y ∧ y < 2147483648)) ∨ x = y)) : wp d 211 1089 [l0, l1, l2, l3] (.inl y :: .inl x :: st) G h Q = if x = y then wp d 211 1337 [l0, l1, l2, l3] st G h Q else wp d 211 1092 [l0, l1, l2, l3] st G h Q := x_icc (x = y) (tst_eq x y) rfl rfl hx
set_option maxRecDepth 100000 in
theorem X_211_1089_t {d : Nat} {l0 l1 l2 l3 : Option AV} {st : List AV} {x y : Int} {G : AG} {h : AH} {Q : Option AV → AG → AH → Prop} (hx : (((-2147483648 ≤ x ∧ x < 2147483648) ∧ (-2147483648 ≤ y ∧ y < 2147483648)) ∨ x = y) ∧ x = y) : wp d 211 1089 [l0, l1, l2, l3] (.inl y :: .inl x :: st) G h Q = wp d 211 1337 [l0, l1, l2, l3] st G h Q := x_ict (x = y) (tst_eq x y) rfl rfl hx
set_option maxRecDepth 100000 in
theorem X_211_1089_f {d : Nat} {l0 l1 l2 l3 : Option AV} {st : List AV} {x y : Int} {G : AG} {h : AH} {Q : Option AV → AG → AH → Prop} (hx : (((-2147483648 ≤ x ∧ x < 2147483648) ∧ (-2147483648 ≤ y ∧ y < 2147483648)) ∨ x = y) ∧ ¬ (x = y)) : wp d 211 1089 [l0, l1, l2, l3] (.inl y :: .inl x :: st) G h Q = wp d 211 1092 [l0, l1, l2, l3] st G h Q := x_icf (x = y) (tst_eq x y) (tgt := 1337) rfl rfl hx
set_option maxRecDepth 100000 in
theorem X_211_1092 {d : Nat} {l0 l1 l2 l3 : Option AV} {st : List AV} {G : AG} {h : AH} {Q : Option AV → AG → AH → Prop} : wp d 211 1092 [l0, l1, l2, l3] st G h Q = wp d 211 1093 [l0, l1, l2, l3] (.inl 0 :: st) G h Q := wp_nx rfl
set_option maxRecDepth 100000 in
theorem X_211_1093 {d : Nat} {l0 l1 l2 l3 : Option AV} {x : Int} {G : AG} {h : AH} {Q : Option AV → AG → AH → Prop} (hx : x = 0 ∨ x = 1) : wp d 211 1093 [l0, l1, l2, l3] [.inl x] G h Q = Q (some (.inl x)) G h := x_retZ rfl hx
set_option maxRecDepth 100000 in
theorem X_211_1094 {d : Nat} {l0 l2 l3 : Option AV} {st : List AV} {x : Nat} {G : AG} {h : AH} {Q : Option AV → AG → AH → Prop} : wp d 211 1094 [l0, some (.inr (.inr (some x))), l2, l3] st G h Q = wp d 211 1095 [l0, some (.inr (.inr (some x))), l2, l3] (.inr (.inr (some x)) :: st) G h Q := wp_nx rfl
set_option maxRecDepth 100000 in
theorem X_211_1095 {d : Nat} {l1 l2 l3 : Option AV} {st : List AV} {x : Nat} {G : AG} {h : AH} {Q : Option AV → AG → AH → Prop} : wp d 211 1095 [some (.inr (.inr (some x))), l1, l2, l3] st G h Q = wp d 211 1096 [some (.inr (.inr (some x))), l1, l2, l3] (.inr (.inr (some x)) :: st) G h Q := wp_nx rfl
set_option maxRecDepth 100000 in
theorem X_211_1096 {d : Nat} {l0 l1 l2 : Option AV} {st : List AV} {x : Int} {G : AG} {h : AH} {Q : Option AV → AG → AH → Prop} : wp d 211 1096 [l0, l1, l2, some (.inl x)] st G h Q = wp d 211 1097 [l0, l1, l2, some (.inl x)] (.inl x :: st) G h Q := wp_nx rfl
set_option maxRecDepth 100000 in
theorem X_211_1097 {d : Nat} {l0 l1 l2 l3 : Option AV} {st : List AV} {G : AG} {h : AH} {Q : Option AV → AG → AH → Prop} : wp d 211 1097 [l0, l1, l2, l3] st G h Q = wp d 211 1098 [l0, l1, l2, l3] (.inl 1 :: st) G h Q := wp_nx rfl
set_option maxRecDepth 100000 in
theorem X_211_1098 {d : Nat} {l0 l1 l2 l3 : Option AV} {st : List AV} {x y : Int} {G : AG} {h : AH} {Q : Option AV → AG → AH → Prop} : wp d 211 1098 [l0, l1, l2, l3] (.inl y :: .inl x :: st) G h Q = wp d 211 1099 [l0, l1, l2, l3] (.inl (x + y) :: st) G h Q := wp_nx rfl
set_option maxRecDepth 100000 in
theorem X_211_1099 {d : Nat} {l0 l1 l2 l3 : Option AV} {st : List AV} {i : Int} {G : AG} {h : AH} {Q : Option AV → AG → AH → Prop} (hk : 0 ≤ i ∧ i < h 1002 0 ∧ h 1002 0 ≤ 100000) : wp d 211 1099 [l0, l1, l2, l3] (.inl i :: .inr (.inr (some 1001)) :: st) G h Q = wp d 211 1100 [l0, l1, l2, l3] (.inl (h 1001 i.toNat) :: st) G h Q := x_scr rfl hk
set_option maxRecDepth 100000 in
theorem X_211_1100 {d : Nat} {l1 l2 l3 : Option AV} {st : List AV} {x : Nat} {G : AG} {h : AH} {Q : Option AV → AG → AH → Prop} : wp d 211 1100 [some (.inr (.inr (some x))), l1, l2, l3] st G h Q = wp d 211 1101 [some (.inr (.inr (some x))), l1, l2, l3] (.inr (.inr (some x)) :: st) G h Q := wp_nx rfl
set_option maxRecDepth 100000 in
theorem X_211_1101 {d : Nat} {l0 l1 l2 : Option AV} {st : List AV} {x : Int} {G : AG} {h : AH} {Q : Option AV → AG → AH → Prop} : wp d 211 1101 [l0, l1, l2, some (.inl x)] st G h Q = wp d 211 1102 [l0, l1, l2, some (.inl x)] (.inl x :: st) G h Q := wp_nx rfl
set_option maxRecDepth 100000 in
theorem X_211_1102 {d : Nat} {l0 l1 l2 l3 : Option AV} {st : List AV} {G : AG} {h : AH} {Q : Option AV → AG → AH → Prop} : wp d 211 1102 [l0, l1, l2, l3] st G h Q = wp d 211 1103 [l0, l1, l2, l3] (.inl 2 :: st) G h Q := wp_nx rfl
set_option maxRecDepth 100000 in
theorem X_211_1103 {d : Nat} {l0 l1 l2 l3 : Option AV} {st : List AV} {x y : Int} {G : AG} {h : AH} {Q : Option AV → AG → AH → Prop} : wp d 211 1103 [l0, l1, l2, l3] (.inl y :: .inl x :: st) G h Q = wp d 211 1104 [l0, l1, l2, l3] (.inl (x + y) :: st) G h Q := wp_nx rfl
set_option maxRecDepth 100000 in
theorem X_211_1104 {d : Nat} {l0 l1 l2 l3 : Option AV} {st : List AV} {i : Int} {G : AG} {h : AH} {Q : Option AV → AG → AH → Prop} (hk : 0 ≤ i ∧ i < h 1002 0 ∧ h 1002 0 ≤ 100000) : wp d 211 1104 [l0, l1, l2, l3] (.inl i :: .inr (.inr (some 1001)) :: st) G h Q = wp d 211 1105 [l0, l1, l2, l3] (.inl (h 1001 i.toNat) :: st) G h Q := x_scr rfl hk
set_option maxRecDepth 100000 in
theorem X_211_1105 {d : Nat} {l1 l2 l3 : Option AV} {st : List AV} {x : Nat} {G : AG} {h : AH} {Q : Option AV → AG → AH → Prop} : wp d 211 1105 [some (.inr (.inr (some x))), l1, l2, l3] st G h Q = wp d 211 1106 [some (.inr (.inr (some x))), l1, l2, l3] (.inr (.inr (some x)) :: st) G h Q := wp_nx rfl
set_option maxRecDepth 100000 in
theorem X_211_1106 {d : Nat} {l0 l1 l2 : Option AV} {st : List AV} {x : Int} {G : AG} {h : AH} {Q : Option AV → AG → AH → Prop} : wp d 211 1106 [l0, l1, l2, some (.inl x)] st G h Q = wp d 211 1107 [l0, l1, l2, some (.inl x)] (.inl x :: st) G h Q := wp_nx rfl
set_option maxRecDepth 100000 in
theorem X_211_1107 {d : Nat} {l0 l1 l2 l3 : Option AV} {st : List AV} {G : AG} {h : AH} {Q : Option AV → AG → AH → Prop} : wp d 211 1107 [l0, l1, l2, l3] st G h Q = wp d 211 1108 [l0, l1, l2, l3] (.inl 3 :: st) G h Q := wp_nx rfl
set_option maxRecDepth 100000 in
theorem X_211_1108 {d : Nat} {l0 l1 l2 l3 : Option AV} {st : List AV} {x y : Int} {G : AG} {h : AH} {Q : Option AV → AG → AH → Prop} : wp d 211 1108 [l0, l1, l2, l3] (.inl y :: .inl x :: st) G h Q = wp d 211 1109 [l0, l1, l2, l3] (.inl (x + y) :: st) G h Q := wp_nx rfl
set_option maxRecDepth 100000 in
theorem X_211_1109 {d : Nat} {l0 l1 l2 l3 : Option AV} {st : List AV} {i : Int} {G : AG} {h : AH} {Q : Option AV → AG → AH → Prop} (hk : 0 ≤ i ∧ i < h 1002 0 ∧ h 1002 0 ≤ 100000) : wp d 211 1109 [l0, l1, l2, l3] (.inl i :: .inr (.inr (some 1001)) :: st) G h Q = wp d 211 1110 [l0, l1, l2, l3] (.inl (h 1001 i.toNat) :: st) G h Q := x_scr rfl hk
set_option maxRecDepth 100000 in
theorem X_211_1110 {d : Nat} {l1 l2 l3 : Option AV} {st : List AV} {x : Nat} {G : AG} {h : AH} {Q : Option AV → AG → AH → Prop} : wp d 211 1110 [some (.inr (.inr (some x))), l1, l2, l3] st G h Q = wp d 211 1111 [some (.inr (.inr (some x))), l1, l2, l3] (.inr (.inr (some x)) :: st) G h Q := wp_nx rfl
set_option maxRecDepth 100000 in
theorem X_211_1111 {d : Nat} {l0 l1 l2 : Option AV} {st : List AV} {x : Int} {G : AG} {h : AH} {Q : Option AV → AG → AH → Prop} : wp d 211 1111 [l0, l1, l2, some (.inl x)] st G h Q = wp d 211 1112 [l0, l1, l2, some (.inl x)] (.inl x :: st) G h Q := wp_nx rfl
set_option maxRecDepth 100000 in
theorem X_211_1112 {d : Nat} {l0 l1 l2 l3 : Option AV} {st : List AV} {G : AG} {h : AH} {Q : Option AV → AG → AH → Prop} : wp d 211 1112 [l0, l1, l2, l3] st G h Q = wp d 211 1113 [l0, l1, l2, l3] (.inl 4 :: st) G h Q := wp_nx rfl
set_option maxRecDepth 100000 in
theorem X_211_1113 {d : Nat} {l0 l1 l2 l3 : Option AV} {st : List AV} {x y : Int} {G : AG} {h : AH} {Q : Option AV → AG → AH → Prop} : wp d 211 1113 [l0, l1, l2, l3] (.inl y :: .inl x :: st) G h Q = wp d 211 1114 [l0, l1, l2, l3] (.inl (x + y) :: st) G h Q := wp_nx rfl
set_option maxRecDepth 100000 in
theorem X_211_1114 {d : Nat} {l0 l1 l2 l3 : Option AV} {st : List AV} {i : Int} {G : AG} {h : AH} {Q : Option AV → AG → AH → Prop} (hk : 0 ≤ i ∧ i < h 1002 0 ∧ h 1002 0 ≤ 100000) : wp d 211 1114 [l0, l1, l2, l3] (.inl i :: .inr (.inr (some 1001)) :: st) G h Q = wp d 211 1115 [l0, l1, l2, l3] (.inl (h 1001 i.toNat) :: st) G h Q := x_scr rfl hk
set_option maxRecDepth 100000 in
theorem X_211_1115 {d : Nat} {l0 l1 l2 l3 : Option AV} {o : Nat} {a1 a2 a3 a4 : AV} {G : AG} {h : AH} {Q : Option AV → AG → AH → Prop} (hk : (shp G o).1 = 6 ∧ (shp G o).2 = 13) : wp d 211 1115 [l0, l1, l2, l3] (a4 :: a3 :: a2 :: a1 :: .inr (.inr (some o)) :: []) G h Q = call d 67 [.inr (.inr (some o)), a1, a2, a3, a4] G h (fun r G2 h2 => wp d 211 1118 [l0, l1, l2, l3] (pushR r []) G2 h2 Q) := x_inv (virt := 2) (as := [.inr (.inr (some o)), a1, a2, a3, a4]) (rest := []) rfl rfl rfl (Nat.le_of_ble_eq_true rfl) (rcv_ok hk)
set_option maxRecDepth 100000 in
theorem X_211_1118 {d : Nat} {l0 l1 l3 : Option AV} {st : List AV} {x : Nat} {G : AG} {h : AH} {Q : Option AV → AG → AH → Prop} : wp d 211 1118 [l0, l1, some (.inr (.inr (some x))), l3] st G h Q = wp d 211 1119 [l0, l1, some (.inr (.inr (some x))), l3] (.inr (.inr (some x)) :: st) G h Q := wp_nx rfl
set_option maxRecDepth 100000 in
theorem X_211_1119 {d : Nat} {l1 l2 l3 : Option AV} {st : List AV} {x : Nat} {G : AG} {h : AH} {Q : Option AV → AG → AH → Prop} : wp d 211 1119 [some (.inr (.inr (some x))), l1, l2, l3] st G h Q = wp d 211 1120 [some (.inr (.inr (some x))), l1, l2, l3] (.inr (.inr (some x)) :: st) G h Q := wp_nx rfl
set_option maxRecDepth 100000 in
theorem X_211_1120 {d : Nat} {l0 l1 l2 : Option AV} {st : List AV} {x : Int} {G : AG} {h : AH} {Q : Option AV → AG → AH → Prop} : wp d 211 1120 [l0, l1, l2, some (.inl x)] st G h Q = wp d 211 1121 [l0, l1, l2, some (.inl x)] (.inl x :: st) G h Q := wp_nx rfl
set_option maxRecDepth 100000 in
theorem X_211_1121 {d : Nat} {l0 l1 l2 l3 : Option AV} {st : List AV} {G : AG} {h : AH} {Q : Option AV → AG → AH → Prop} : wp d 211 1121 [l0, l1, l2, l3] st G h Q = wp d 211 1122 [l0, l1, l2, l3] (.inl 1 :: st) G h Q := wp_nx rfl
set_option maxRecDepth 100000 in
theorem X_211_1122 {d : Nat} {l0 l1 l2 l3 : Option AV} {st : List AV} {x y : Int} {G : AG} {h : AH} {Q : Option AV → AG → AH → Prop} : wp d 211 1122 [l0, l1, l2, l3] (.inl y :: .inl x :: st) G h Q = wp d 211 1123 [l0, l1, l2, l3] (.inl (x + y) :: st) G h Q := wp_nx rfl
set_option maxRecDepth 100000 in
theorem X_211_1123 {d : Nat} {l0 l1 l2 l3 : Option AV} {st : List AV} {i : Int} {G : AG} {h : AH} {Q : Option AV → AG → AH → Prop} (hk : 0 ≤ i ∧ i < h 1002 0 ∧ h 1002 0 ≤ 100000) : wp d 211 1123 [l0, l1, l2, l3] (.inl i :: .inr (.inr (some 1001)) :: st) G h Q = wp d 211 1124 [l0, l1, l2, l3] (.inl (h 1001 i.toNat) :: st) G h Q := x_scr rfl hk
set_option maxRecDepth 100000 in
theorem X_211_1124 {d : Nat} {l1 l2 l3 : Option AV} {st : List AV} {x : Nat} {G : AG} {h : AH} {Q : Option AV → AG → AH → Prop} : wp d 211 1124 [some (.inr (.inr (some x))), l1, l2, l3] st G h Q = wp d 211 1125 [some (.inr (.inr (some x))), l1, l2, l3] (.inr (.inr (some x)) :: st) G h Q := wp_nx rfl
set_option maxRecDepth 100000 in
theorem X_211_1125 {d : Nat} {l0 l1 l2 : Option AV} {st : List AV} {x : Int} {G : AG} {h : AH} {Q : Option AV → AG → AH → Prop} : wp d 211 1125 [l0, l1, l2, some (.inl x)] st G h Q = wp d 211 1126 [l0, l1, l2, some (.inl x)] (.inl x :: st) G h Q := wp_nx rfl
set_option maxRecDepth 100000 in
theorem X_211_1126 {d : Nat} {l0 l1 l2 l3 : Option AV} {st : List AV} {G : AG} {h : AH} {Q : Option AV → AG → AH → Prop} : wp d 211 1126 [l0, l1, l2, l3] st G h Q = wp d 211 1127 [l0, l1, l2, l3] (.inl 2 :: st) G h Q := wp_nx rfl
set_option maxRecDepth 100000 in
theorem X_211_1127 {d : Nat} {l0 l1 l2 l3 : Option AV} {st : List AV} {x y : Int} {G : AG} {h : AH} {Q : Option AV → AG → AH → Prop} : wp d 211 1127 [l0, l1, l2, l3] (.inl y :: .inl x :: st) G h Q = wp d 211 1128 [l0, l1, l2, l3] (.inl (x + y) :: st) G h Q := wp_nx rfl
set_option maxRecDepth 100000 in
theorem X_211_1128 {d : Nat} {l0 l1 l2 l3 : Option AV} {st : List AV} {i : Int} {G : AG} {h : AH} {Q : Option AV → AG → AH → Prop} (hk : 0 ≤ i ∧ i < h 1002 0 ∧ h 1002 0 ≤ 100000) : wp d 211 1128 [l0, l1, l2, l3] (.inl i :: .inr (.inr (some 1001)) :: st) G h Q = wp d 211 1129 [l0, l1, l2, l3] (.inl (h 1001 i.toNat) :: st) G h Q := x_scr rfl hk
set_option maxRecDepth 100000 in
theorem X_211_1129 {d : Nat} {l1 l2 l3 : Option AV} {st : List AV} {x : Nat} {G : AG} {h : AH} {Q : Option AV → AG → AH → Prop} : wp d 211 1129 [some (.inr (.inr (some x))), l1, l2, l3] st G h Q = wp d 211 1130 [some (.inr (.inr (some x))), l1, l2, l3] (.inr (.inr (some x)) :: st) G h Q := wp_nx rfl
set_option maxRecDepth 100000 in
theorem X_211_1130 {d : Nat} {l0 l1 l2 : Option AV} {st : List AV} {x : Int} {G : AG} {h : AH} {Q : Option AV → AG → AH → Prop} : wp d 211 1130 [l0, l1, l2, some (.inl x)] st G h Q = wp d 211 1131 [l0, l1, l2, some (.inl x)] (.inl x :: st) G h Q := wp_nx rfl
set_option maxRecDepth 100000 in
theorem X_211_1131 {d : Nat} {l0 l1 l2 l3 : Option AV} {st : List AV} {G : AG} {h : AH} {Q : Option AV → AG → AH → Prop} : wp d 211 1131 [l0, l1, l2, l3] st G h Q = wp d 211 1132 [l0, l1, l2, l3] (.inl 3 :: st) G h Q := wp_nx rfl
set_option maxRecDepth 100000 in
theorem X_211_1132 {d : Nat} {l0 l1 l2 l3 : Option AV} {st : List AV} {x y : Int} {G : AG} {h : AH} {Q : Option AV → AG → AH → Prop} : wp d 211 1132 [l0, l1, l2, l3] (.inl y :: .inl x :: st) G h Q = wp d 211 1133 [l0, l1, l2, l3] (.inl (x + y) :: st) G h Q := wp_nx rfl
set_option maxRecDepth 100000 in
theorem X_211_1133 {d : Nat} {l0 l1 l2 l3 : Option AV} {st : List AV} {i : Int} {G : AG} {h : AH} {Q : Option AV → AG → AH → Prop} (hk : 0 ≤ i ∧ i < h 1002 0 ∧ h 1002 0 ≤ 100000) : wp d 211 1133 [l0, l1, l2, l3] (.inl i :: .inr (.inr (some 1001)) :: st) G h Q = wp d 211 1134 [l0, l1, l2, l3] (.inl (h 1001 i.toNat) :: st) G h Q := x_scr rfl hk
set_option maxRecDepth 100000 in
theorem X_211_1134 {d : Nat} {l1 l2 l3 : Option AV} {st : List AV} {x : Nat} {G : AG} {h : AH} {Q : Option AV → AG → AH → Prop} : wp d 211 1134 [some (.inr (.inr (some x))), l1, l2, l3] st G h Q = wp d 211 1135 [some (.inr (.inr (some x))), l1, l2, l3] (.inr (.inr (some x)) :: st) G h Q := wp_nx rfl
set_option maxRecDepth 100000 in
theorem X_211_1135 {d : Nat} {l0 l1 l2 : Option AV} {st : List AV} {x : Int} {G : AG} {h : AH} {Q : Option AV → AG → AH → Prop} : wp d 211 1135 [l0, l1, l2, some (.inl x)] st G h Q = wp d 211 1136 [l0, l1, l2, some (.inl x)] (.inl x :: st) G h Q := wp_nx rfl
set_option maxRecDepth 100000 in
theorem X_211_1136 {d : Nat} {l0 l1 l2 l3 : Option AV} {st : List AV} {G : AG} {h : AH} {Q : Option AV → AG → AH → Prop} : wp d 211 1136 [l0, l1, l2, l3] st G h Q = wp d 211 1137 [l0, l1, l2, l3] (.inl 4 :: st) G h Q := wp_nx rfl
set_option maxRecDepth 100000 in
theorem X_211_1137 {d : Nat} {l0 l1 l2 l3 : Option AV} {st : List AV} {x y : Int} {G : AG} {h : AH} {Q : Option AV → AG → AH → Prop} : wp d 211 1137 [l0, l1, l2, l3] (.inl y :: .inl x :: st) G h Q = wp d 211 1138 [l0, l1, l2, l3] (.inl (x + y) :: st) G h Q := wp_nx rfl
set_option maxRecDepth 100000 in
theorem X_211_1138 {d : Nat} {l0 l1 l2 l3 : Option AV} {st : List AV} {i : Int} {G : AG} {h : AH} {Q : Option AV → AG → AH → Prop} (hk : 0 ≤ i ∧ i < h 1002 0 ∧ h 1002 0 ≤ 100000) : wp d 211 1138 [l0, l1, l2, l3] (.inl i :: .inr (.inr (some 1001)) :: st) G h Q = wp d 211 1139 [l0, l1, l2, l3] (.inl (h 1001 i.toNat) :: st) G h Q := x_scr rfl hk
set_option maxRecDepth 100000 in
theorem X_211_1139 {d : Nat} {l0 l1 l2 l3 : Option AV} {o : Nat} {a1 a2 a3 a4 : AV} {s0 : AV} {G : AG} {h : AH} {Q : Option AV → AG → AH → Prop} (hk : (shp G o).1 = 7 ∧ (shp G o).2 = 20) : wp d 211 1139 [l0, l1, l2, l3] (a4 :: a3 :: a2 :: a1 :: .inr (.inr (some o)) :: [s0]) G h Q = call d 192 [.inr (.inr (some o)), a1, a2, a3, a4] G h (fun r G2 h2 => wp d 211 1142 [l0, l1, l2, l3] (pushR r [s0]) G2 h2 Q) := x_inv (virt := 3) (as := [.inr (.inr (some o)), a1, a2, a3, a4]) (rest := [s0]) rfl rfl rfl (Nat.le_of_ble_eq_true rfl) (rcv_ok hk)
set_option maxRecDepth 100000 in
theorem X_211_1142 {d : Nat} {l0 l1 l2 l3 : Option AV} {st : List AV} {x y : Int} {G : AG} {h : AH} {Q : Option AV → AG → AH → Prop} (hx : (((-2147483648 ≤ x ∧ x < 2147483648) ∧ (-2147483648 ≤ y ∧ y < 2147483648)) ∨ x = y)) : wp d 211 1142 [l0, l1, l2, l3] (.inl y :: .inl x :: st) G h Q = if x = y then wp d 211 1337 [l0, l1, l2, l3] st G h Q else wp d 211 1145 [l0, l1, l2, l3] st G h Q := x_icc (x = y) (tst_eq x y) rfl rfl hx
set_option maxRecDepth 100000 in
theorem X_211_1142_t {d : Nat} {l0 l1 l2 l3 : Option AV} {st : List AV} {x y : Int} {G : AG} {h : AH} {Q : Option AV → AG → AH → Prop} (hx : (((-2147483648 ≤ x ∧ x < 2147483648) ∧ (-2147483648 ≤ y ∧ y < 2147483648)) ∨ x = y) ∧ x = y) : wp d 211 1142 [l0, l1, l2, l3] (.inl y :: .inl x :: st) G h Q = wp d 211 1337 [l0, l1, l2, l3] st G h Q := x_ict (x = y) (tst_eq x y) rfl rfl hx
set_option maxRecDepth 100000 in
theorem X_211_1142_f {d : Nat} {l0 l1 l2 l3 : Option AV} {st : List AV} {x y : Int} {G : AG} {h : AH} {Q : Option AV → AG → AH → Prop} (hx : (((-2147483648 ≤ x ∧ x < 2147483648) ∧ (-2147483648 ≤ y ∧ y < 2147483648)) ∨ x = y) ∧ ¬ (x = y)) : wp d 211 1142 [l0, l1, l2, l3] (.inl y :: .inl x :: st) G h Q = wp d 211 1145 [l0, l1, l2, l3] st G h Q := x_icf (x = y) (tst_eq x y) (tgt := 1337) rfl rfl hx
set_option maxRecDepth 100000 in
theorem X_211_1145 {d : Nat} {l0 l1 l2 l3 : Option AV} {st : List AV} {G : AG} {h : AH} {Q : Option AV → AG → AH → Prop} : wp d 211 1145 [l0, l1, l2, l3] st G h Q = wp d 211 1146 [l0, l1, l2, l3] (.inl 0 :: st) G h Q := wp_nx rfl
set_option maxRecDepth 100000 in
theorem X_211_1146 {d : Nat} {l0 l1 l2 l3 : Option AV} {x : Int} {G : AG} {h : AH} {Q : Option AV → AG → AH → Prop} (hx : x = 0 ∨ x = 1) : wp d 211 1146 [l0, l1, l2, l3] [.inl x] G h Q = Q (some (.inl x)) G h := x_retZ rfl hx
set_option maxRecDepth 100000 in
theorem X_211_1147 {d : Nat} {l0 l2 l3 : Option AV} {st : List AV} {x : Nat} {G : AG} {h : AH} {Q : Option AV → AG → AH → Prop} : wp d 211 1147 [l0, some (.inr (.inr (some x))), l2, l3] st G h Q = wp d 211 1148 [l0, some (.inr (.inr (some x))), l2, l3] (.inr (.inr (some x)) :: st) G h Q := wp_nx rfl
set_option maxRecDepth 100000 in
theorem X_211_1148 {d : Nat} {l1 l2 l3 : Option AV} {st : List AV} {x : Nat} {G : AG} {h : AH} {Q : Option AV → AG → AH → Prop} : wp d 211 1148 [some (.inr (.inr (some x))), l1, l2, l3] st G h Q = wp d 211 1149 [some (.inr (.inr (some x))), l1, l2, l3] (.inr (.inr (some x)) :: st) G h Q := wp_nx rfl
set_option maxRecDepth 100000 in
theorem X_211_1149 {d : Nat} {l0 l1 l2 : Option AV} {st : List AV} {x : Int} {G : AG} {h : AH} {Q : Option AV → AG → AH → Prop} : wp d 211 1149 [l0, l1, l2, some (.inl x)] st G h Q = wp d 211 1150 [l0, l1, l2, some (.inl x)] (.inl x :: st) G h Q := wp_nx rfl
set_option maxRecDepth 100000 in
theorem X_211_1150 {d : Nat} {l0 l1 l2 l3 : Option AV} {st : List AV} {G : AG} {h : AH} {Q : Option AV → AG → AH → Prop} : wp d 211 1150 [l0, l1, l2, l3] st G h Q = wp d 211 1151 [l0, l1, l2, l3] (.inl 1 :: st) G h Q := wp_nx rfl
set_option maxRecDepth 100000 in
theorem X_211_1151 {d : Nat} {l0 l1 l2 l3 : Option AV} {st : List AV} {x y : Int} {G : AG} {h : AH} {Q : Option AV → AG → AH → Prop} : wp d 211 1151 [l0, l1, l2, l3] (.inl y :: .inl x :: st) G h Q = wp d 211 1152 [l0, l1, l2, l3] (.inl (x + y) :: st) G h Q := wp_nx rfl
set_option maxRecDepth 100000 in
theorem X_211_1152 {d : Nat} {l0 l1 l2 l3 : Option AV} {st : List AV} {i : Int} {G : AG} {h : AH} {Q : Option AV → AG → AH → Prop} (hk : 0 ≤ i ∧ i < h 1002 0 ∧ h 1002 0 ≤ 100000) : wp d 211 1152 [l0, l1, l2, l3] (.inl i :: .inr (.inr (some 1001)) :: st) G h Q = wp d 211 1153 [l0, l1, l2, l3] (.inl (h 1001 i.toNat) :: st) G h Q := x_scr rfl hk
set_option maxRecDepth 100000 in
theorem X_211_1153 {d : Nat} {l1 l2 l3 : Option AV} {st : List AV} {x : Nat} {G : AG} {h : AH} {Q : Option AV → AG → AH → Prop} : wp d 211 1153 [some (.inr (.inr (some x))), l1, l2, l3] st G h Q = wp d 211 1154 [some (.inr (.inr (some x))), l1, l2, l3] (.inr (.inr (some x)) :: st) G h Q := wp_nx rfl
set_option maxRecDepth 100000 in
theorem X_211_1154 {d : Nat} {l0 l1 l2 : Option AV} {st : List AV} {x : Int} {G : AG} {h : AH} {Q : Option AV → AG → AH → Prop} : wp d 211 1154 [l0, l1, l2, some (.inl x)] st G h Q = wp d 211 1155 [l0, l1, l2, some (.inl x)] (.inl x :: st) G h Q := wp_nx rfl
set_option maxRecDepth 100000 in
theorem X_211_1155 {d : Nat} {l0 l1 l2 l3 : Option AV} {st : List AV} {G : AG} {h : AH} {Q : Option AV → AG → AH → Prop} : wp d 211 1155 [l0, l1, l2, l3] st G h Q = wp d 211 1156 [l0, l1, l2, l3] (.inl 2 :: st) G h Q := wp_nx rfl
set_option maxRecDepth 100000 in
theorem X_211_1156 {d : Nat} {l0 l1 l2 l3 : Option AV} {st : List AV} {x y : Int} {G : AG} {h : AH} {Q : Option AV → AG → AH → Prop} : wp d 211 1156 [l0, l1, l2, l3] (.inl y :: .inl x :: st) G h Q = wp d 211 1157 [l0, l1, l2, l3] (.inl (x + y) :: st) G h Q := wp_nx rfl
set_option maxRecDepth 100000 in
theorem X_211_1157 {d : Nat} {l0 l1 l2 l3 : Option AV} {st : List AV} {i : Int} {G : AG} {h : AH} {Q : Option AV → AG → AH → Prop} (hk : 0 ≤ i ∧ i < h 1002 0 ∧ h 1002 0 ≤ 100000) : wp d 211 1157 [l0, l1, l2, l3] (.inl i :: .inr (.inr (some 1001)) :: st) G h Q = wp d 211 1158 [l0, l1, l2, l3] (.inl (h 1001 i.toNat) :: st) G h Q := x_scr rfl hk
set_option maxRecDepth 100000 in
theorem X_211_1158 {d : Nat} {l1 l2 l3 : Option AV} {st : List AV} {x : Nat} {G : AG} {h : AH} {Q : Option AV → AG → AH → Prop} : wp d 211 1158 [some (.inr (.inr (some x))), l1, l2, l3] st G h Q = wp d 211 1159 [some (.inr (.inr (some x))), l1, l2, l3] (.inr (.inr (some x)) :: st) G h Q := wp_nx rfl
set_option maxRecDepth 100000 in
theorem X_211_1159 {d : Nat} {l0 l1 l2 : Option AV} {st : List AV} {x : Int} {G : AG} {h : AH} {Q : Option AV → AG → AH → Prop} : wp d 211 1159 [l0, l1, l2, some (.inl x)] st G h Q = wp d 211 1160 [l0, l1, l2, some (.inl x)] (.inl x :: st) G h Q := wp_nx rfl
set_option maxRecDepth 100000 in
theorem X_211_1160 {d : Nat} {l0 l1 l2 l3 : Option AV} {st : List AV} {G : AG} {h : AH} {Q : Option AV → AG → AH → Prop} : wp d 211 1160 [l0, l1, l2, l3] st G h Q = wp d 211 1161 [l0, l1, l2, l3] (.inl 3 :: st) G h Q := wp_nx rfl
set_option maxRecDepth 100000 in
theorem X_211_1161 {d : Nat} {l0 l1 l2 l3 : Option AV} {st : List AV} {x y : Int} {G : AG} {h : AH} {Q : Option AV → AG → AH → Prop} : wp d 211 1161 [l0, l1, l2, l3] (.inl y :: .inl x :: st) G h Q = wp d 211 1162 [l0, l1, l2, l3] (.inl (x + y) :: st) G h Q := wp_nx rfl
set_option maxRecDepth 100000 in
theorem X_211_1162 {d : Nat} {l0 l1 l2 l3 : Option AV} {st : List AV} {i : Int} {G : AG} {h : AH} {Q : Option AV → AG → AH → Prop} (hk : 0 ≤ i ∧ i < h 1002 0 ∧ h 1002 0 ≤ 100000) : wp d 211 1162 [l0, l1, l2, l3] (.inl i :: .inr (.inr (some 1001)) :: st) G h Q = wp d 211 1163 [l0, l1, l2, l3] (.inl (h 1001 i.toNat) :: st) G h Q := x_scr rfl hk
set_option maxRecDepth 100000 in
theorem X_211_1163 {d : Nat} {l0 l1 l2 l3 : Option AV} {o : Nat} {a1 a2 a3 : AV} {G : AG} {h : AH} {Q : Option AV → AG → AH → Prop} (hk : (shp G o).1 = 6 ∧ (shp G o).2 = 13) : wp d 211 1163 [l0, l1, l2, l3] (a3 :: a2 :: a1 :: .inr (.inr (some o)) :: []) G h Q = call d 68 [.inr (.inr (some o)), a1, a2, a3] G h (fun r G2 h2 => wp d 211 1166 [l0, l1, l2, l3] (pushR r []) G2 h2 Q) := x_inv (virt := 2) (as := [.inr (.inr (some o)), a1, a2, a3]) (rest := []) rfl rfl rfl (Nat.le_of_ble_eq_true rfl) (rcv_ok hk)
set_option maxRecDepth 100000 in
theorem X_211_1166 {d : Nat} {l0 l1 l3 : Option AV} {st : List AV} {x : Nat} {G : AG} {h : AH} {Q : Option AV → AG → AH → Prop} : wp d 211 1166 [l0, l1, some (.inr (.inr (some x))), l3] st G h Q = wp d 211 1167 [l0, l1, some (.inr (.inr (some x))), l3] (.inr (.inr (some x)) :: st) G h Q := wp_nx rfl
set_option maxRecDepth 100000 in
theorem X_211_1167 {d : Nat} {l1 l2 l3 : Option AV} {st : List AV} {x : Nat} {G : AG} {h : AH} {Q : Option AV → AG → AH → Prop} : wp d 211 1167 [some (.inr (.inr (some x))), l1, l2, l3] st G h Q = wp d 211 1168 [some (.inr (.inr (some x))), l1, l2, l3] (.inr (.inr (some x)) :: st) G h Q := wp_nx rfl
set_option maxRecDepth 100000 in
theorem X_211_1168 {d : Nat} {l0 l1 l2 : Option AV} {st : List AV} {x : Int} {G : AG} {h : AH} {Q : Option AV → AG → AH → Prop} : wp d 211 1168 [l0, l1, l2, some (.inl x)] st G h Q = wp d 211 1169 [l0, l1, l2, some (.inl x)] (.inl x :: st) G h Q := wp_nx rfl
set_option maxRecDepth 100000 in
theorem X_211_1169 {d : Nat} {l0 l1 l2 l3 : Option AV} {st : List AV} {G : AG} {h : AH} {Q : Option AV → AG → AH → Prop} : wp d 211 1169 [l0, l1, l2, l3] st G h Q = wp d 211 1170 [l0, l1, l2, l3] (.inl 1 :: st) G h Q := wp_nx rfl
set_option maxRecDepth 100000 in
theorem X_211_1170 {d : Nat} {l0 l1 l2 l3 : Option AV} {st : List AV} {x y : Int} {G : AG} {h : AH} {Q : Option AV → AG → AH → Prop} : wp d 211 1170 [l0, l1, l2, l3] (.inl y :: .inl x :: st) G h Q = wp d 211 1171 [l0, l1, l2, l3] (.inl (x + y) :: st) G h Q := wp_nx rfl
set_option maxRecDepth 100000 in
theorem X_211_1171 {d : Nat} {l0 l1 l2 l3 : Option AV} {st : List AV} {i : Int} {G : AG} {h : AH} {Q : Option AV → AG → AH → Prop} (hk : 0 ≤ i ∧ i < h 1002 0 ∧ h 1002 0 ≤ 100000) : wp d 211 1171 [l0, l1, l2, l3] (.inl i :: .inr (.inr (some 1001)) :: st) G h Q = wp d 211 1172 [l0, l1, l2, l3] (.inl (h 1001 i.toNat) :: st) G h Q := x_scr rfl hk
set_option maxRecDepth 100000 in
theorem X_211_1172 {d : Nat} {l1 l2 l3 : Option AV} {st : List AV} {x : Nat} {G : AG} {h : AH} {Q : Option AV → AG → AH → Prop} : wp d 211 1172 [some (.inr (.inr (some x))), l1, l2, l3] st G h Q = wp d 211 1173 [some (.inr (.inr (some x))), l1, l2, l3] (.inr (.inr (some x)) :: st) G h Q := wp_nx rfl
set_option maxRecDepth 100000 in
theorem X_211_1173 {d : Nat} {l0 l1 l2 : Option AV} {st : List AV} {x : Int} {G : AG} {h : AH} {Q : Option AV → AG → AH → Prop} : wp d 211 1173 [l0, l1, l2, some (.inl x)] st G h Q = wp d 211 1174 [l0, l1, l2, some (.inl x)] (.inl x :: st) G h Q := wp_nx rfl
set_option maxRecDepth 100000 in
theorem X_211_1174 {d : Nat} {l0 l1 l2 l3 : Option AV} {st : List AV} {G : AG} {h : AH} {Q : Option AV → AG → AH → Prop} : wp d 211 1174 [l0, l1, l2, l3] st G h Q = wp d 211 1175 [l0, l1, l2, l3] (.inl 2 :: st) G h Q := wp_nx rfl
set_option maxRecDepth 100000 in
theorem X_211_1175 {d : Nat} {l0 l1 l2 l3 : Option AV} {st : List AV} {x y : Int} {G : AG} {h : AH} {Q : Option AV → AG → AH → Prop} : wp d 211 1175 [l0, l1, l2, l3] (.inl y :: .inl x :: st) G h Q = wp d 211 1176 [l0, l1, l2, l3] (.inl (x + y) :: st) G h Q := wp_nx rfl
set_option maxRecDepth 100000 in
theorem X_211_1176 {d : Nat} {l0 l1 l2 l3 : Option AV} {st : List AV} {i : Int} {G : AG} {h : AH} {Q : Option AV → AG → AH → Prop} (hk : 0 ≤ i ∧ i < h 1002 0 ∧ h 1002 0 ≤ 100000) : wp d 211 1176 [l0, l1, l2, l3] (.inl i :: .inr (.inr (some 1001)) :: st) G h Q = wp d 211 1177 [l0, l1, l2, l3] (.inl (h 1001 i.toNat) :: st) G h Q := x_scr rfl hk
set_option maxRecDepth 100000 in
theorem X_211_1177 {d : Nat} {l1 l2 l3 : Option AV} {st : List AV} {x : Nat} {G : AG} {h : AH} {Q : Option AV → AG → AH → Prop} : wp d 211 1177 [some (.inr (.inr (some x))), l1, l2, l3] st G h Q = wp d 211 1178 [some (.inr (.inr (some x))), l1, l2, l3] (.inr (.inr (some x)) :: st) G h Q := wp_nx rfl
set_option maxRecDepth 100000 in
theorem X_211_1178 {d : Nat} {l0 l1 l2 : Option AV} {st : List AV} {x : Int} {G : AG} {h : AH} {Q : Option AV → AG → AH → Prop} : wp d 211 1178 [l0, l1, l2, some (.inl x)] st G h Q = wp d 211 1179 [l0, l1, l2, some (.inl x)] (.inl x :: st) G h Q := wp_nx rfl
set_option maxRecDepth 100000 in
theorem X_211_1179 {d : Nat} {l0 l1 l2 l3 : Option AV} {st : List AV} {G : AG} {h : AH} {Q : Option AV → AG → AH → Prop} : wp d 211 1179 [l0, l1, l2, l3] st G h Q = wp d 211 1180 [l0, l1, l2, l3] (.inl 3 :: st) G h Q := wp_nx rfl
set_option maxRecDepth 100000 in
theorem X_211_1180 {d : Nat} {l0 l1 l2 l3 : Option AV} {st : List AV} {x y : Int} {G : AG} {h : AH} {Q : Option AV → AG → AH → Prop} : wp d 211 1180 [l0, l1, l2, l3] (.inl y :: .inl x :: st) G h Q = wp d 211 1181 [l0, l1, l2, l3] (.inl (x + y) :: st) G h Q := wp_nx rfl
set_option maxRecDepth 100000 in
theorem X_211_1181 {d : Nat} {l0 l1 l2 l3 : Option AV} {st : List AV} {i : Int} {G : AG} {h : AH} {Q : Option AV → AG → AH → Prop} (hk : 0 ≤ i ∧ i < h 1002 0 ∧ h 1002 0 ≤ 100000) : wp d 211 1181 [l0, l1, l2, l3] (.inl i :: .inr (.inr (some 1001)) :: st) G h Q = wp d 211 1182 [l0, l1, l2, l3] (.inl (h 1001 i.toNat) :: st) G h Q := x_scr rfl hk
set_option maxRecDepth 100000 in
theorem X_211_1182 {d : Nat} {l0 l1 l2 l3 : Option AV} {o : Nat} {a1 a2 a3 : AV} {s0 : AV} {G : AG} {h : AH} {Q : Option AV → AG → AH → Prop} (hk : (shp G o).1 = 7 ∧ (shp G o).2 = 20) : wp d 211 1182 [l0, l1, l2, l3] (a3 :: a2 :: a1 :: .inr (.inr (some o)) :: [s0]) G h Q = call d 193 [.inr (.inr (some o)), a1, a2, a3] G h (fun r G2 h2 => wp d 211 1185 [l0, l1, l2, l3] (pushR r [s0]) G2 h2 Q) := x_inv (virt := 3) (as := [.inr (.inr (some o)), a1, a2, a3]) (rest := [s0]) rfl rfl rfl (Nat.le_of_ble_eq_true rfl) (rcv_ok hk)
set_option maxRecDepth 100000 in
theorem X_211_1185 {d : Nat} {l0 l1 l2 l3 : Option AV} {st : List AV} {x y : Int} {G : AG} {h : AH} {Q : Option AV → AG → AH → Prop} (hx : (((-2147483648 ≤ x ∧ x < 2147483648) ∧ (-2147483648 ≤ y ∧ y < 2147483648)) ∨ x = y)) : wp d 211 1185 [l0, l1, l2, l3] (.inl y :: .inl x :: st) G h Q = if x = y then wp d 211 1337 [l0, l1, l2, l3] st G h Q else wp d 211 1188 [l0, l1, l2, l3] st G h Q := x_icc (x = y) (tst_eq x y) rfl rfl hx
set_option maxRecDepth 100000 in
theorem X_211_1185_t {d : Nat} {l0 l1 l2 l3 : Option AV} {st : List AV} {x y : Int} {G : AG} {h : AH} {Q : Option AV → AG → AH → Prop} (hx : (((-2147483648 ≤ x ∧ x < 2147483648) ∧ (-2147483648 ≤ y ∧ y < 2147483648)) ∨ x = y) ∧ x = y) : wp d 211 1185 [l0, l1, l2, l3] (.inl y :: .inl x :: st) G h Q = wp d 211 1337 [l0, l1, l2, l3] st G h Q := x_ict (x = y) (tst_eq x y) rfl rfl hx
set_option maxRecDepth 100000 in
theorem X_211_1185_f {d : Nat} {l0 l1 l2 l3 : Option AV} {st : List AV} {x y : Int} {G : AG} {h : AH} {Q : Option AV → AG → AH → Prop} (hx : (((-2147483648 ≤ x ∧ x < 2147483648) ∧ (-2147483648 ≤ y ∧ y < 2147483648)) ∨ x = y) ∧ ¬ (x = y)) : wp d 211 1185 [l0, l1, l2, l3] (.inl y :: .inl x :: st) G h Q = wp d 211 1188 [l0, l1, l2, l3] st G h Q := x_icf (x = y) (tst_eq x y) (tgt := 1337) rfl rfl hx
set_option maxRecDepth 100000 in
theorem X_211_1188 {d : Nat} {l0 l1 l2 l3 : Option AV} {st : List AV} {G : AG} {h : AH} {Q : Option AV → AG → AH → Prop} : wp d 211 1188 [l0, l1, l2, l3] st G h Q = wp d 211 1189 [l0, l1, l2, l3] (.inl 0 :: st) G h Q := wp_nx rfl
set_option maxRecDepth 100000 in
theorem X_211_1189 {d : Nat} {l0 l1 l2 l3 : Option AV} {x : Int} {G : AG} {h : AH} {Q : Option AV → AG → AH → Prop} (hx : x = 0 ∨ x = 1) : wp d 211 1189 [l0, l1, l2, l3] [.inl x] G h Q = Q (some (.inl x)) G h := x_retZ rfl hx
set_option maxRecDepth 100000 in
theorem X_211_1190 {d : Nat} {l0 l2 l3 : Option AV} {st : List AV} {x : Nat} {G : AG} {h : AH} {Q : Option AV → AG → AH → Prop} : wp d 211 1190 [l0, some (.inr (.inr (some x))), l2, l3] st G h Q = wp d 211 1191 [l0, some (.inr (.inr (some x))), l2, l3] (.inr (.inr (some x)) :: st) G h Q := wp_nx rfl
set_option maxRecDepth 100000 in
theorem X_211_1191 {d : Nat} {l1 l2 l3 : Option AV} {st : List AV} {x : Nat} {G : AG} {h : AH} {Q : Option AV → AG → AH → Prop} : wp d 211 1191 [some (.inr (.inr (some x))), l1, l2, l3] st G h Q = wp d 211 1192 [some (.inr (.inr (some x))), l1, l2, l3] (.inr (.inr (some x)) :: st) G h Q := wp_nx rfl
set_option maxRecDepth 100000 in
theorem X_211_1192 {d : Nat} {l0 l1 l2 : Option AV} {st : List AV} {x : Int} {G : AG} {h : AH} {Q : Option AV → AG → AH → Prop} : wp d 211 1192 [l0, l1, l2, some (.inl x)] st G h Q = wp d 211 1193 [l0, l1, l2, some (.inl x)] (.inl x :: st) G h Q := wp_nx rfl
set_option maxRecDepth 100000 in
theorem X_211_1193 {d : Nat} {l0 l1 l2 l3 : Option AV} {st : List AV} {G : AG} {h : AH} {Q : Option AV → AG → AH → Prop} : wp d 211 1193 [l0, l1, l2, l3] st G h Q = wp d 211 1194 [l0, l1, l2, l3] (.inl 1 :: st) G h Q := wp_nx rfl
set_option maxRecDepth 100000 in
theorem X_211_1194 {d : Nat} {l0 l1 l2 l3 : Option AV} {st : List AV} {x y : Int} {G : AG} {h : AH} {Q : Option AV → AG → AH → Prop} : wp d 211 1194 [l0, l1, l2, l3] (.inl y :: .inl x :: st) G h Q = wp d 211 1195 [l0, l1, l2, l3] (.inl (x + y) :: st) G h Q := wp_nx rfl
set_option maxRecDepth 100000 in
theorem X_211_1195 {d : Nat} {l0 l1 l2 l3 : Option AV} {st : List AV} {i : Int} {G : AG} {h : AH} {Q : Option AV → AG → AH → Prop} (hk : 0 ≤ i ∧ i < h 1002 0 ∧ h 1002 0 ≤ 100000) : wp d 211 1195 [l0, l1, l2, l3] (.inl i :: .inr (.inr (some 1001)) :: st) G h Q = wp d 211 1196 [l0, l1, l2, l3] (.inl (h 1001 i.toNat) :: st) G h Q := x_scr rfl hk
set_option maxRecDepth 100000 in
theorem X_211_1196 {d : Nat} {l1 l2 l3 : Option AV} {st : List AV} {x : Nat} {G : AG} {h : AH} {Q : Option AV → AG → AH → Prop} : wp d 211 1196 [some (.inr (.inr (some x))), l1, l2, l3] st G h Q = wp d 211 1197 [some (.inr (.inr (some x))), l1, l2, l3] (.inr (.inr (some x)) :: st) G h Q := wp_nx rfl
set_option maxRecDepth 100000 in
theorem X_211_1197 {d : Nat} {l0 l1 l2 : Option AV} {st : List AV} {x : Int} {G : AG} {h : AH} {Q : Option AV → AG → AH → Prop} : wp d 211 1197 [l0, l1, l2, some (.inl x)] st G h Q = wp d 211 1198 [l0, l1, l2, some (.inl x)] (.inl x :: st) G h Q := wp_nx rfl
set_option maxRecDepth 100000 in
theorem X_211_1198 {d : Nat} {l0 l1 l2 l3 : Option AV} {st : List AV} {G : AG} {h : AH} {Q : Option AV → AG → AH → Prop} : wp d 211 1198 [l0, l1, l2, l3] st G h Q = wp d 211 1199 [l0, l1, l2, l3] (.inl 2 :: st) G h Q := wp_nx rfl
set_option maxRecDepth 100000 in
theorem X_211_1199 {d : Nat} {l0 l1 l2 l3 : Option AV} {st : List AV} {x y : Int} {G : AG} {h : AH} {Q : Option AV → AG → AH → Prop} : wp d 211 1199 [l0, l1, l2, l3] (.inl y :: .inl x :: st) G h Q = wp d 211 1200 [l0, l1, l2, l3] (.inl (x + y) :: st) G h Q := wp_nx rfl
set_option maxRecDepth 100000 in
theorem X_211_1200 {d : Nat} {l0 l1 l2 l3 : Option AV} {st : List AV} {i : Int} {G : AG} {h : AH} {Q : Option AV → AG → AH → Prop} (hk : 0 ≤ i ∧ i < h 1002 0 ∧ h 1002 0 ≤ 100000) : wp d 211 1200 [l0, l1, l2, l3] (.inl i :: .inr (.inr (some 1001)) :: st) G h Q = wp d 211 1201 [l0, l1, l2, l3] (.inl (h 1001 i.toNat) :: st) G h Q := x_scr rfl hk
set_option maxRecDepth 100000 in
theorem X_211_1201 {d : Nat} {l0 l1 l2 l3 : Option AV} {o : Nat} {a1 a2 : AV} {G : AG} {h : AH} {Q : Option AV → AG → AH → Prop} (hk : (shp G o).1 = 6 ∧ (shp G o).2 = 13) : wp d 211 1201 [l0, l1, l2, l3] (a2 :: a1 :: .inr (.inr (some o)) :: []) G h Q = call d 69 [.inr (.inr (some o)), a1, a2] G h (fun r G2 h2 => wp d 211 1204 [l0, l1, l2, l3] (pushR r []) G2 h2 Q) := x_inv (virt := 2) (as := [.inr (.inr (some o)), a1, a2]) (rest := []) rfl rfl rfl (Nat.le_of_ble_eq_true rfl) (rcv_ok hk)
set_option maxRecDepth 100000 in
theorem X_211_1204 {d : Nat} {l0 l1 l3 : Option AV} {st : List AV} {x : Nat} {G : AG} {h : AH} {Q : Option AV → AG → AH → Prop} : wp d 211 1204 [l0, l1, some (.inr (.inr (some x))), l3] st G h Q = wp d 211 1205 [l0, l1, some (.inr (.inr (some x))), l3] (.inr (.inr (some x)) :: st) G h Q := wp_nx rfl
set_option maxRecDepth 100000 in
theorem X_211_1205 {d : Nat} {l1 l2 l3 : Option AV} {st : List AV} {x : Nat} {G : AG} {h : AH} {Q : Option AV → AG → AH → Prop} : wp d 211 1205 [some (.inr (.inr (some x))), l1, l2, l3] st G h Q = wp d 211 1206 [some (.inr (.inr (some x))), l1, l2, l3] (.inr (.inr (some x)) :: st) G h Q := wp_nx rfl
set_option maxRecDepth 100000 in
theorem X_211_1206 {d : Nat} {l0 l1 l2 : Option AV} {st : List AV} {x : Int} {G : AG} {h : AH} {Q : Option AV → AG → AH → Prop} : wp d 211 1206 [l0, l1, l2, some (.inl x)] st G h Q = wp d 211 1207 [l0, l1, l2, some (.inl x)] (.inl x :: st) G h Q := wp_nx rfl
set_option maxRecDepth 100000 in
theorem X_211_1207 {d : Nat} {l0 l1 l2 l3 : Option AV} {st : List AV} {G : AG} {h : AH} {Q : Option AV → AG → AH → Prop} : wp d 211 1207 [l0, l1, l2, l3] st G h Q = wp d 211 1208 [l0, l1, l2, l3] (.inl 1 :: st) G h Q := wp_nx rfl
set_option maxRecDepth 100000 in
theorem X_211_1208 {d : Nat} {l0 l1 l2 l3 : Option AV} {st : List AV} {x y : Int} {G : AG} {h : AH} {Q : Option AV → AG → AH → Prop} : wp d 211 1208 [l0, l1, l2, l3] (.inl y :: .inl x :: st) G h Q = wp d 211 1209 [l0, l1, l2, l3] (.inl (x + y) :: st) G h Q := wp_nx rfl
set_option maxRecDepth 100000 in
theorem X_211_1209 {d : Nat} {l0 l1 l2 l3 : Option AV} {st : List AV} {i : Int} {G : AG} {h : AH} {Q : Option AV → AG → AH → Prop} (hk : 0 ≤ i ∧ i < h 1002 0 ∧ h 1002 0 ≤ 100000) : wp d 211 1209 [l0, l1, l2, l3] (.inl i :: .inr (.inr (some 1001)) :: st) G h Q = wp d 211 1210 [l0, l1, l2, l3] (.inl (h 1001 i.toNat) :: st) G h Q := x_scr rfl hk
set_option maxRecDepth 100000 in
theorem X_211_1210 {d : Nat} {l1 l2 l3 : Option AV} {st : List AV} {x : Nat} {G : AG} {h : AH} {Q : Option AV → AG → AH → Prop} : wp d 211 1210 [some (.inr (.inr (some x))), l1, l2, l3] st G h Q = wp d 211 1211 [some (.inr (.inr (some x))), l1, l2, l3] (.inr (.inr (some x)) :: st) G h Q := wp_nx rfl
set_option maxRecDepth 100000 in
theorem X_211_1211 {d : Nat} {l0 l1 l2 : Option AV} {st : List AV} {x : Int} {G : AG} {h : AH} {Q : Option AV → AG → AH → Prop} : wp d 211 1211 [l0, l1, l2, some (.inl x)] st G h Q = wp d 211 1212 [l0, l1, l2, some (.inl x)] (.inl x :: st) G h Q := wp_nx rfl
set_option maxRecDepth 100000 in
theorem X_211_1212 {d : Nat} {l0 l1 l2 l3 : Option AV} {st : List AV} {G : AG} {h : AH} {Q : Option AV → AG → AH → Prop} : wp d 211 1212 [l0, l1, l2, l3] st G h Q = wp d 211 1213 [l0, l1, l2, l3] (.inl 2 :: st) G h Q := wp_nx rfl
set_option maxRecDepth 100000 in
theorem X_211_1213 {d : Nat} {l0 l1 l2 l3 : Option AV} {st : List AV} {x y : Int} {G : AG} {h : AH} {Q : Option AV → AG → AH → Prop} : wp d 211 1213 [l0, l1, l2, l3] (.inl y :: .inl x :: st) G h Q = wp d 211 1214 [l0, l1, l2, l3] (.inl (x + y) :: st) G h Q := wp_nx rfl
set_option maxRecDepth 100000 in
theorem X_211_1214 {d : Nat} {l0 l1 l2 l3 : Option AV} {st : List AV} {i : Int} {G : AG} {h : AH} {Q : Option AV → AG → AH → Prop} (hk : 0 ≤ i ∧ i < h 1002 0 ∧ h 1002 0 ≤ 100000) : wp d 211 1214 [l0, l1, l2, l3] (.inl i :: .inr (.inr (some 1001)) :: st) G h Q = wp d 211 1215 [l0, l1, l2, l3] (.inl (h 1001 i.toNat) :: st) G h Q := x_scr rfl hk
set_option maxRecDepth 100000 in
theorem X_211_1215 {d : Nat} {l0 l1 l2 l3 : Option AV} {o : Nat} {a1 a2 : AV} {s0 : AV} {G : AG} {h : AH} {Q : Option AV → AG → AH → Prop} (hk : (shp G o).1 = 7 ∧ (shp G o).2 = 20) : wp d 211 1215 [l0, l1, l2, l3] (a2 :: a1 :: .inr (.inr (some o)) :: [s0]) G h Q = call d 194 [.inr (.inr (some o)), a1, a2] G h (fun r G2 h2 => wp d 211 1218 [l0, l1, l2, l3] (pushR r [s0]) G2 h2 Q) := x_inv (virt := 3) (as := [.inr (.inr (some o)), a1, a2]) (rest := [s0]) rfl rfl rfl (Nat.le_of_ble_eq_true rfl) (rcv_ok hk)
set_option maxRecDepth 100000 in
theorem X_211_1218 {d : Nat} {l0 l1 l2 l3 : Option AV} {st : List AV} {x y : Int} {G : AG} {h : AH} {Q : Option AV → AG → AH → Prop} (hx : (((-2147483648 ≤ x ∧ x < 2147483648) ∧ (-2147483648 ≤ y ∧ y < 2147483648)) ∨ x = y)) : wp d 211 1218 [l0, l1, l2, l3] (.inl y :: .inl x :: st) G h Q = if x = y then wp d 211 1337 [l0, l1, l2, l3] st G h Q else wp d 211 1221 [l0, l1, l2, l3] st G h Q := x_icc (x = y) (tst_eq x y) rfl rfl hx
set_option maxRecDepth 100000 in
theorem X_211_1218_t {d : Nat} {l0 l1 l2 l3 : Option AV} {st : List AV} {x y : Int} {G : AG} {h : AH} {Q : Option AV → AG → AH → Prop} (hx : (((-2147483648 ≤ x ∧ x < 2147483648) ∧ (-2147483648 ≤ y ∧ y < 2147483648)) ∨ x = y) ∧ x = y) : wp d 211 1218 [l0, l1, l2, l3] (.inl y :: .inl x :: st) G h Q = wp d 211 1337 [l0, l1, l2, l3] st G h Q := x_ict (x = y) (tst_eq x y) rfl rfl hx
set_option maxRecDepth 100000 in
theorem X_211_1218_f {d : Nat} {l0 l1 l2 l3 : Option AV} {st : List AV} {x y : Int} {G : AG} {h : AH} {Q : Option AV → AG → AH → Prop} (hx : (((-2147483648 ≤ x ∧ x < 2147483648) ∧ (-2147483648 ≤ y ∧ y < 2147483648)) ∨ x = y) ∧ ¬ (x = y)) : wp d 211 1218 [l0, l1, l2, l3] (.inl y :: .inl x :: st) G h Q = wp d 211 1221 [l0, l1, l2, l3] st G h Q := x_icf (x = y) (tst_eq x y) (tgt := 1337) rfl rfl hx
set_option maxRecDepth 100000 in
theorem X_211_1221 {d : Nat} {l0 l1 l2 l3 : Option AV} {st : List AV} {G : AG} {h : AH} {Q : Option AV → AG → AH → Prop} : wp d 211 1221 [l0, l1, l2, l3] st G h Q = wp d 211 1222 [l0, l1, l2, l3] (.inl 0 :: st) G h Q := wp_nx rfl
set_option maxRecDepth 100000 in
theorem X_211_1222 {d : Nat} {l0 l1 l2 l3 : Option AV} {x : Int} {G : AG} {h : AH} {Q : Option AV → AG → AH → Prop} (hx : x = 0 ∨ x = 1) : wp d 211 1222 [l0, l1, l2, l3] [.inl x] G h Q = Q (some (.inl x)) G h := x_retZ rfl hx
set_option maxRecDepth 100000 in
theorem X_211_1223 {d : Nat} {l0 l2 l3 : Option AV} {st : List AV} {x : Nat} {G : AG} {h : AH} {Q : Option AV → AG → AH → Prop} : wp d 211 1223 [l0, some (.inr (.inr (some x))), l2, l3] st G h Q = wp d 211 1224 [l0, some (.inr (.inr (some x))), l2, l3] (.inr (.inr (some x)) :: st) G h Q := wp_nx rfl
set_option maxRecDepth 100000 in
theorem X_211_1224 {d : Nat} {l0 l1 l2 l3 : Option AV} {o : Nat} {G : AG} {h : AH} {Q : Option AV → AG → AH → Prop} (hk : (shp G o).1 = 6 ∧ (shp G o).2 = 13) : wp d 211 1224 [l0, l1, l2, l3] (.inr (.inr (some o)) :: []) G h Q = call d 70 [.inr (.inr (some o))] G h (fun r G2 h2 => wp d 211 1227 [l0, l1, l2, l3] (pushR r []) G2 h2 Q) := x_inv (virt := 2) (as := [.inr (.inr (some o))]) (rest := []) rfl rfl rfl (Nat.le_of_ble_eq_true rfl) (rcv_ok hk)
set_option maxRecDepth 100000 in
theorem X_211_1227 {d : Nat} {l0 l1 l3 : Option AV} {st : List AV} {x : Nat} {G : AG} {h : AH} {Q : Option AV → AG → AH → Prop} : wp d 211 1227 [l0, l1, some (.inr (.inr (some x))), l3] st G h Q = wp d 211 1228 [l0, l1, some (.inr (.inr (some x))), l3] (.inr (.inr (some x)) :: st) G h Q := wp_nx rfl
set_option maxRecDepth 100000 in
theorem X_211_1228 {d : Nat} {l0 l1 l2 l3 : Option AV} {o : Nat} {s0 : AV} {G : AG} {h : AH} {Q : Option AV → AG → AH → Prop} (hk : (shp G o).1 = 7 ∧ (shp G o).2 = 20) : wp d 211 1228 [l0, l1, l2, l3] (.inr (.inr (some o)) :: [s0]) G h Q = call d 195 [.inr (.inr (some o))] G h (fun r G2 h2 => wp d 211 1231 [l0, l1, l2, l3] (pushR r [s0]) G2 h2 Q) := x_inv (virt := 3) (as := [.inr (.inr (some o))]) (rest := [s0]) rfl rfl rfl (Nat.le_of_ble_eq_true rfl) (rcv_ok hk)
set_option maxRecDepth 100000 in
theorem X_211_1231 {d : Nat} {l0 l1 l2 l3 : Option AV} {st : List AV} {x y : Int} {G : AG} {h : AH} {Q : Option AV → AG → AH → Prop} (hx : (((-2147483648 ≤ x ∧ x < 2147483648) ∧ (-2147483648 ≤ y ∧ y < 2147483648)) ∨ x = y)) : wp d 211 1231 [l0, l1, l2, l3] (.inl y :: .inl x :: st) G h Q = if x = y then wp d 211 1337 [l0, l1, l2, l3] st G h Q else wp d 211 1234 [l0, l1, l2, l3] st G h Q := x_icc (x = y) (tst_eq x y) rfl rfl hx
set_option maxRecDepth 100000 in
theorem X_211_1231_t {d : Nat} {l0 l1 l2 l3 : Option AV} {st : List AV} {x y : Int} {G : AG} {h : AH} {Q : Option AV → AG → AH → Prop} (hx : (((-2147483648 ≤ x ∧ x < 2147483648) ∧ (-2147483648 ≤ y ∧ y < 2147483648)) ∨ x = y) ∧ x = y) : wp d 211 1231 [l0, l1, l2, l3] (.inl y :: .inl x :: st) G h Q = wp d 211 1337 [l0, l1, l2, l3] st G h Q := x_ict (x = y) (tst_eq x y) rfl rfl hx
set_option maxRecDepth 100000 in
theorem X_211_1231_f {d : Nat} {l0 l1 l2 l3 : Option AV} {st : List AV} {x y : Int} {G : AG} {h : AH} {Q : Option AV → AG → AH → Prop} (hx : (((-2147483648 ≤ x ∧ x < 2147483648) ∧ (-2147483648 ≤ y ∧ y < 2147483648)) ∨ x = y) ∧ ¬ (x = y)) : wp d 211 1231 [l0, l1, l2, l3] (.inl y :: .inl x :: st) G h Q = wp d 211 1234 [l0, l1, l2, l3] st G h Q := x_icf (x = y) (tst_eq x y) (tgt := 1337) rfl rfl hx
set_option maxRecDepth 100000 in
theorem X_211_1234 {d : Nat} {l0 l1 l2 l3 : Option AV} {st : List AV} {G : AG} {h : AH} {Q : Option AV → AG → AH → Prop} : wp d 211 1234 [l0, l1, l2, l3] st G h Q = wp d 211 1235 [l0, l1, l2, l3] (.inl 0 :: st) G h Q := wp_nx rfl
set_option maxRecDepth 100000 in
theorem X_211_1235 {d : Nat} {l0 l1 l2 l3 : Option AV} {x : Int} {G : AG} {h : AH} {Q : Option AV → AG → AH → Prop} (hx : x = 0 ∨ x = 1) : wp d 211 1235 [l0, l1, l2, l3] [.inl x] G h Q = Q (some (.inl x)) G h := x_retZ rfl hx
set_option maxRecDepth 100000 in
theorem X_211_1236 {d : Nat} {l0 l2 l3 : Option AV} {st : List AV} {x : Nat} {G : AG} {h : AH} {Q : Option AV → AG → AH → Prop} : wp d 211 1236 [l0, some (.inr (.inr (some x))), l2, l3] st G h Q = wp d 211 1237 [l0, some (.inr (.inr (some x))), l2, l3] (.inr (.inr (some x)) :: st) G h Q := wp_nx rfl
set_option maxRecDepth 100000 in
theorem X_211_1237 {d : Nat} {l0 l1 l2 l3 : Option AV} {o : Nat} {G : AG} {h : AH} {Q : Option AV → AG → AH → Prop} (hk : (shp G o).1 = 6 ∧ (shp G o).2 = 13) : wp d 211 1237 [l0, l1, l2, l3] (.inr (.inr (some o)) :: []) G h Q = call d 71 [.inr (.inr (some o))] G h (fun r G2 h2 => wp d 211 1240 [l0, l1, l2, l3] (pushR r []) G2 h2 Q) := x_inv (virt := 2) (as := [.inr (.inr (some o))]) (rest := []) rfl rfl rfl (Nat.le_of_ble_eq_true rfl) (rcv_ok hk)
set_option maxRecDepth 100000 in
theorem X_211_1240 {d : Nat} {l0 l1 l3 : Option AV} {st : List AV} {x : Nat} {G : AG} {h : AH} {Q : Option AV → AG → AH → Prop} : wp d 211 1240 [l0, l1, some (.inr (.inr (some x))), l3] st G h Q = wp d 211 1241 [l0, l1, some (.inr (.inr (some x))), l3] (.inr (.inr (some x)) :: st) G h Q := wp_nx rfl
set_option maxRecDepth 100000 in
theorem X_211_1241 {d : Nat} {l0 l1 l2 l3 : Option AV} {o : Nat} {s0 : AV} {G : AG} {h : AH} {Q : Option AV → AG → AH → Prop} (hk : (shp G o).1 = 7 ∧ (shp G o).2 = 20) : wp d 211 1241 [l0, l1, l2, l3] (.inr (.inr (some o)) :: [s0]) G h Q = call d 196 [.inr (.inr (some o))] G h (fun r G2 h2 => wp d 211 1244 [l0, l1, l2, l3] (pushR r [s0]) G2 h2 Q) := x_inv (virt := 3) (as := [.inr (.inr (some o))]) (rest := [s0]) rfl rfl rfl (Nat.le_of_ble_eq_true rfl) (rcv_ok hk)
set_option maxRecDepth 100000 in
theorem X_211_1244 {d : Nat} {l0 l1 l2 l3 : Option AV} {st : List AV} {x y : Int} {G : AG} {h : AH} {Q : Option AV → AG → AH → Prop} (hx : x = y ∨ ((-9223372036854775808 ≤ x ∧ x < 9223372036854775808) ∧ (-9223372036854775808 ≤ y ∧ y < 9223372036854775808))) : wp d 211 1244 [l0, l1, l2, l3] (.inr (.inl y) :: .inr (.inl x) :: st) G h Q = wp d 211 1245 [l0, l1, l2, l3] (.inl (if x = y then 0 else if y < x then 1 else -1) :: st) G h Q := x_lcmp rfl hx
set_option maxRecDepth 100000 in
theorem X_211_1245 {d : Nat} {l0 l1 l2 l3 : Option AV} {st : List AV} {x : Int} {G : AG} {h : AH} {Q : Option AV → AG → AH → Prop} (hx : (-2147483648 ≤ x ∧ x < 2147483648)) : wp d 211 1245 [l0, l1, l2, l3] (.inl x :: st) G h Q = if x = 0 then wp d 211 1337 [l0, l1, l2, l3] st G h Q else wp d 211 1248 [l0, l1, l2, l3] st G h Q := x_ifc (x = 0) (tst_eq x 0) rfl rfl hx
set_option maxRecDepth 100000 in
theorem X_211_1245_t {d : Nat} {l0 l1 l2 l3 : Option AV} {st : List AV} {x : Int} {G : AG} {h : AH} {Q : Option AV → AG → AH → Prop} (hx : (-2147483648 ≤ x ∧ x < 2147483648) ∧ x = 0) : wp d 211 1245 [l0, l1, l2, l3] (.inl x :: st) G h Q = wp d 211 1337 [l0, l1, l2, l3] st G h Q := x_ift (x = 0) (tst_eq x 0) rfl rfl hx
set_option maxRecDepth 100000 in
theorem X_211_1245_f {d : Nat} {l0 l1 l2 l3 : Option AV} {st : List AV} {x : Int} {G : AG} {h : AH} {Q : Option AV → AG → AH → Prop} (hx : (-2147483648 ≤ x ∧ x < 2147483648) ∧ ¬ (x = 0)) : wp d 211 1245 [l0, l1, l2, l3] (.inl x :: st) G h Q = wp d 211 1248 [l0, l1, l2, l3] st G h Q := x_iff (x = 0) (tst_eq x 0) (tgt := 1337) rfl rfl hx
set_option maxRecDepth 100000 in
theorem X_211_1248 {d : Nat} {l0 l1 l2 l3 : Option AV} {st : List AV} {G : AG} {h : AH} {Q : Option AV → AG → AH → Prop} : wp d 211 1248 [l0, l1, l2, l3] st G h Q = wp d 211 1249 [l0, l1, l2, l3] (.inl 0 :: st) G h Q := wp_nx rfl
set_option maxRecDepth 100000 in
theorem X_211_1249 {d : Nat} {l0 l1 l2 l3 : Option AV} {x : Int} {G : AG} {h : AH} {Q : Option AV → AG → AH → Prop} (hx : x = 0 ∨ x = 1) : wp d 211 1249 [l0, l1, l2, l3] [.inl x] G h Q = Q (some (.inl x)) G h := x_retZ rfl hx
set_option maxRecDepth 100000 in
theorem X_211_1250 {d : Nat} {l0 l2 l3 : Option AV} {st : List AV} {x : Nat} {G : AG} {h : AH} {Q : Option AV → AG → AH → Prop} : wp d 211 1250 [l0, some (.inr (.inr (some x))), l2, l3] st G h Q = wp d 211 1251 [l0, some (.inr (.inr (some x))), l2, l3] (.inr (.inr (some x)) :: st) G h Q := wp_nx rfl
set_option maxRecDepth 100000 in
theorem X_211_1251 {d : Nat} {l0 l1 l2 l3 : Option AV} {o : Nat} {G : AG} {h : AH} {Q : Option AV → AG → AH → Prop} (hk : (shp G o).1 = 6 ∧ (shp G o).2 = 13) : wp d 211 1251 [l0, l1, l2, l3] (.inr (.inr (some o)) :: []) G h Q = call d 72 [.inr (.inr (some o))] G h (fun r G2 h2 => wp d 211 1254 [l0, l1, l2, l3] (pushR r []) G2 h2 Q) := x_inv (virt := 2) (as := [.inr (.inr (some o))]) (rest := []) rfl rfl rfl (Nat.le_of_ble_eq_true rfl) (rcv_ok hk)
set_option maxRecDepth 100000 in
theorem X_211_1254 {d : Nat} {l0 l1 l3 : Option AV} {st : List AV} {x : Nat} {G : AG} {h : AH} {Q : Option AV → AG → AH → Prop} : wp d 211 1254 [l0, l1, some (.inr (.inr (some x))), l3] st G h Q = wp d 211 1255 [l0, l1, some (.inr (.inr (some x))), l3] (.inr (.inr (some x)) :: st) G h Q := wp_nx rfl
set_option maxRecDepth 100000 in
theorem X_211_1255 {d : Nat} {l0 l1 l2 l3 : Option AV} {o : Nat} {s0 : AV} {G : AG} {h : AH} {Q : Option AV → AG → AH → Prop} (hk : (shp G o).1 = 7 ∧ (shp G o).2 = 20) : wp d 211 1255 [l0, l1, l2, l3] (.inr (.inr (some o)) :: [s0]) G h Q = call d 197 [.inr (.inr (some o))] G h (fun r G2 h2 => wp d 211 1258 [l0, l1, l2, l3] (pushR r [s0]) G2 h2 Q) := x_inv (virt := 3) (as := [.inr (.inr (some o))]) (rest := [s0]) rfl rfl rfl (Nat.le_of_ble_eq_true rfl) (rcv_ok hk)
set_option maxRecDepth 100000 in
theorem X_211_1258 {d : Nat} {l0 l1 l2 l3 : Option AV} {st : List AV} {x y : Int} {G : AG} {h : AH} {Q : Option AV → AG → AH → Prop} (hx : x = y ∨ ((-9223372036854775808 ≤ x ∧ x < 9223372036854775808) ∧ (-9223372036854775808 ≤ y ∧ y < 9223372036854775808))) : wp d 211 1258 [l0, l1, l2, l3] (.inr (.inl y) :: .inr (.inl x) :: st) G h Q = wp d 211 1259 [l0, l1, l2, l3] (.inl (if x = y then 0 else if y < x then 1 else -1) :: st) G h Q := x_lcmp rfl hx
set_option maxRecDepth 100000 in
theorem X_211_1259 {d : Nat} {l0 l1 l2 l3 : Option AV} {st : List AV} {x : Int} {G : AG} {h : AH} {Q : Option AV → AG → AH → Prop} (hx : (-2147483648 ≤ x ∧ x < 2147483648)) : wp d 211 1259 [l0, l1, l2, l3] (.inl x :: st) G h Q = if x = 0 then wp d 211 1337 [l0, l1, l2, l3] st G h Q else wp d 211 1262 [l0, l1, l2, l3] st G h Q := x_ifc (x = 0) (tst_eq x 0) rfl rfl hx
set_option maxRecDepth 100000 in
theorem X_211_1259_t {d : Nat} {l0 l1 l2 l3 : Option AV} {st : List AV} {x : Int} {G : AG} {h : AH} {Q : Option AV → AG → AH → Prop} (hx : (-2147483648 ≤ x ∧ x < 2147483648) ∧ x = 0) : wp d 211 1259 [l0, l1, l2, l3] (.inl x :: st) G h Q = wp d 211 1337 [l0, l1, l2, l3] st G h Q := x_ift (x = 0) (tst_eq x 0) rfl rfl hx
set_option maxRecDepth 100000 in
theorem X_211_1259_f {d : Nat} {l0 l1 l2 l3 : Option AV} {st : List AV} {x : Int} {G : AG} {h : AH} {Q : Option AV → AG → AH → Prop} (hx : (-2147483648 ≤ x ∧ x < 2147483648) ∧ ¬ (x = 0)) : wp d 211 1259 [l0, l1, l2, l3] (.inl x :: st) G h Q = wp d 211 1262 [l0, l1, l2, l3] st G h Q := x_iff (x = 0) (tst_eq x 0) (tgt := 1337) rfl rfl hx
set_option maxRecDepth 100000 in
theorem X_211_1262 {d : Nat} {l0 l1 l2 l3 : Option AV} {st : List AV} {G : AG} {h : AH} {Q : Option AV → AG → AH → Prop} : wp d 211 1262 [l0, l1, l2, l3] st G h Q = wp d 211 1263 [l0, l1, l2, l3] (.inl 0 :: st) G h Q := wp_nx rfl
set_option maxRecDepth 100000 in
theorem X_211_1263 {d : Nat} {l0 l1 l2 l3 : Option AV} {x : Int} {G : AG} {h : AH} {Q : Option AV → AG → AH → Prop} (hx : x = 0 ∨ x = 1) : wp d 211 1263 [l0, l1, l2, l3] [.inl x] G h Q = Q (some (.inl x)) G h := x_retZ rfl hx
set_option maxRecDepth 100000 in
theorem X_211_1264 {d : Nat} {l0 l2 l3 : Option AV} {st : List AV} {x : Nat} {G : AG} {h : AH} {Q : Option AV → AG → AH → Prop} : wp d 211 1264 [l0, some (.inr (.inr (some x))), l2, l3] st G h Q = wp d 211 1265 [l0, some (.inr (.inr (some x))), l2, l3] (.inr (.inr (some x)) :: st) G h Q := wp_nx rfl
set_option maxRecDepth 100000 in
theorem X_211_1265 {d : Nat} {l1 l2 l3 : Option AV} {st : List AV} {x : Nat} {G : AG} {h : AH} {Q : Option AV → AG → AH → Prop} : wp d 211 1265 [some (.inr (.inr (some x))), l1, l2, l3] st G h Q = wp d 211 1266 [some (.inr (.inr (some x))), l1, l2, l3] (.inr (.inr (some x)) :: st) G h Q := wp_nx rfl
set_option maxRecDepth 100000 in
theorem X_211_1266 {d : Nat} {l0 l1 l2 : Option AV} {st : List AV} {x : Int} {G : AG} {h : AH} {Q : Option AV → AG → AH → Prop} : wp d 211 1266 [l0, l1, l2, some (.inl x)] st G h Q = wp d 211 1267 [l0, l1, l2, some (.inl x)] (.inl x :: st) G h Q := wp_nx rfl
set_option maxRecDepth 100000 in
theorem X_211_1267 {d : Nat} {l0 l1 l2 l3 : Option AV} {st : List AV} {G : AG} {h : AH} {Q : Option AV → AG → AH → Prop} : wp d 211 1267 [l0, l1, l2, l3] st G h Q = wp d 211 1268 [l0, l1, l2, l3] (.inl 1 :: st) G h Q := wp_nx rfl
set_option maxRecDepth 100000 in
theorem X_211_1268 {d : Nat} {l0 l1 l2 l3 : Option AV} {st : List AV} {x y : Int} {G : AG} {h : AH} {Q : Option AV → AG → AH → Prop} : wp d 211 1268 [l0, l1, l2, l3] (.inl y :: .inl x :: st) G h Q = wp d 211 1269 [l0, l1, l2, l3] (.inl (x + y) :: st) G h Q := wp_nx rfl
set_option maxRecDepth 100000 in
theorem X_211_1269 {d : Nat} {l0 l1 l2 l3 : Option AV} {st : List AV} {i : Int} {G : AG} {h : AH} {Q : Option AV → AG → AH → Prop} (hk : 0 ≤ i ∧ i < h 1002 0 ∧ h 1002 0 ≤ 100000) : wp d 211 1269 [l0, l1, l2, l3] (.inl i :: .inr (.inr (some 1001)) :: st) G h Q = wp d 211 1270 [l0, l1, l2, l3] (.inl (h 1001 i.toNat) :: st) G h Q := x_scr rfl hk
set_option maxRecDepth 100000 in
theorem X_211_1270 {d : Nat} {l0 l1 l2 l3 : Option AV} {o : Nat} {a1 : AV} {G : AG} {h : AH} {Q : Option AV → AG → AH → Prop} (hk : (shp G o).1 = 6 ∧ (shp G o).2 = 13) : wp d 211 1270 [l0, l1, l2, l3] (a1 :: .inr (.inr (some o)) :: []) G h Q = call d 73 [.inr (.inr (some o)), a1] G h (fun r G2 h2 => wp d 211 1273 [l0, l1, l2, l3] (pushR r []) G2 h2 Q) := x_inv (virt := 2) (as := [.inr (.inr (some o)), a1]) (rest := []) rfl rfl rfl (Nat.le_of_ble_eq_true rfl) (rcv_ok hk)
set_option maxRecDepth 100000 in
theorem X_211_1273 {d : Nat} {l0 l1 l3 : Option AV} {st : List AV} {x : Nat} {G : AG} {h : AH} {Q : Option AV → AG → AH → Prop} : wp d 211 1273 [l0, l1, some (.inr (.inr (some x))), l3] st G h Q = wp d 211 1274 [l0, l1, some (.inr (.inr (some x))), l3] (.inr (.inr (some x)) :: st) G h Q := wp_nx rfl
set_option maxRecDepth 100000 in
theorem X_211_1274 {d : Nat} {l1 l2 l3 : Option AV} {st : List AV} {x : Nat} {G : AG} {h : AH} {Q : Option AV → AG → AH → Prop} : wp d 211 1274 [some (.inr (.inr (some x))), l1, l2, l3] st G h Q = wp d 211 1275 [some (.inr (.inr (some x))), l1, l2, l3] (.inr (.inr (some x)) :: st) G h Q := wp_nx rfl
set_option maxRecDepth 100000 in
theorem X_211_1275 {d : Nat} {l0 l1 l2 : Option AV} {st : List AV} {x : Int} {G : AG} {h : AH} {Q : Option AV → AG → AH → Prop} : wp d 211 1275 [l0, l1, l2, some (.inl x)] st G h Q = wp d 211 1276 [l0, l1, l2, some (.inl x)] (.inl x :: st) G h Q := wp_nx rfl
set_option maxRecDepth 100000 in
theorem X_211_1276 {d : Nat} {l0 l1 l2 l3 : Option AV} {st : List AV} {G : AG} {h : AH} {Q : Option AV → AG → AH → Prop} : wp d 211 1276 [l0, l1, l2, l3] st G h Q = wp d 211 1277 [l0, l1, l2, l3] (.inl 1 :: st) G h Q := wp_nx rfl
set_option maxRecDepth 100000 in
theorem X_211_1277 {d : Nat} {l0 l1 l2 l3 : Option AV} {st : List AV} {x y : Int} {G : AG} {h : AH} {Q : Option AV → AG → AH → Prop} : wp d 211 1277 [l0, l1, l2, l3] (.inl y :: .inl x :: st) G h Q = wp d 211 1278 [l0, l1, l2, l3] (.inl (x + y) :: st) G h Q := wp_nx rfl
set_option maxRecDepth 100000 in
theorem X_211_1278 {d : Nat} {l0 l1 l2 l3 : Option AV} {st : List AV} {i : Int} {G : AG} {h : AH} {Q : Option AV → AG → AH → Prop} (hk : 0 ≤ i ∧ i < h 1002 0 ∧ h 1002 0 ≤ 100000) : wp d 211 1278 [l0, l1, l2, l3] (.inl i :: .inr (.inr (some 1001)) :: st) G h Q = wp d 211 1279 [l0, l1, l2, l3] (.inl (h 1001 i.toNat) :: st) G h Q := x_scr rfl hk
set_option maxRecDepth 100000 in
theorem X_211_1279 {d : Nat} {l0 l1 l2 l3 : Option AV} {o : Nat} {a1 : AV} {s0 : AV} {G : AG} {h : AH} {Q : Option AV → AG → AH → Prop} (hk : (shp G o).1 = 7 ∧ (shp G o).2 = 20) : wp d 211 1279 [l0, l1, l2, l3] (a1 :: .inr (.inr (some o)) :: [s0]) G h Q = call d 203 [.inr (.inr (some o)), a1] G h (fun r G2 h2 => wp d 211 1282 [l0, l1, l2, l3] (pushR r [s0]) G2 h2 Q) := x_inv (virt := 3) (as := [.inr (.inr (some o)), a1]) (rest := [s0]) rfl rfl rfl (Nat.le_of_ble_eq_true rfl) (rcv_ok hk)
set_option maxRecDepth 100000 in
theorem X_211_1282 {d : Nat} {l0 l1 l2 l3 : Option AV} {st : List AV} {x y : Int} {G : AG} {h : AH} {Q : Option AV → AG → AH → Prop} (hx : (((-2147483648 ≤ x ∧ x < 2147483648) ∧ (-2147483648 ≤ y ∧ y < 2147483648)) ∨ x = y)) : wp d 211 1282 [l0, l1, l2, l3] (.inl y :: .inl x :: st) G h Q = if x = y then wp d 211 1337 [l0, l1, l2, l3] st G h Q else wp d 211 1285 [l0, l1, l2, l3] st G h Q := x_icc (x = y) (tst_eq x y) rfl rfl hx
set_option maxRecDepth 100000 in
theorem X_211_1282_t {d : Nat} {l0 l1 l2 l3 : Option AV} {st : List AV} {x y : Int} {G : AG} {h : AH} {Q : Option AV → AG → AH → Prop} (hx : (((-2147483648 ≤ x ∧ x < 2147483648) ∧ (-2147483648 ≤ y ∧ y < 2147483648)) ∨ x = y) ∧ x = y) : wp d 211 1282 [l0, l1, l2, l3] (.inl y :: .inl x :: st) G h Q = wp d 211 1337 [l0, l1, l2, l3] st G h Q := x_ict (x = y) (tst_eq x y) rfl rfl hx
set_option maxRecDepth 100000 in
theorem X_211_1282_f {d : Nat} {l0 l1 l2 l3 : Option AV} {st : List AV} {x y : Int} {G : AG} {h : AH} {Q : Option AV → AG → AH → Prop} (hx : (((-2147483648 ≤ x ∧ x < 2147483648) ∧ (-2147483648 ≤ y ∧ y < 2147483648)) ∨ x = y) ∧ ¬ (x = y)) : wp d 211 1282 [l0, l1, l2, l3] (.inl y :: .inl x :: st) G h Q = wp d 211 1285 [l0, l1, l2, l3] st G h Q := x_icf (x = y) (tst_eq x y) (tgt := 1337) rfl rfl hx
set_option maxRecDepth 100000 in
theorem X_211_1285 {d : Nat} {l0 l1 l2 l3 : Option AV} {st : List AV} {G : AG} {h : AH} {Q : Option AV → AG → AH → Prop} : wp d 211 1285 [l0, l1, l2, l3] st G h Q = wp d 211 1286 [l0, l1, l2, l3] (.inl 0 :: st) G h Q := wp_nx rfl
set_option maxRecDepth 100000 in
theorem X_211_1286 {d : Nat} {l0 l1 l2 l3 : Option AV} {x : Int} {G : AG} {h : AH} {Q : Option AV → AG → AH → Prop} (hx : x = 0 ∨ x = 1) : wp d 211 1286 [l0, l1, l2, l3] [.inl x] G h Q = Q (some (.inl x)) G h := x_retZ rfl hx
set_option maxRecDepth 100000 in
theorem X_211_1287 {d : Nat} {l0 l2 l3 : Option AV} {st : List AV} {x : Nat} {G : AG} {h : AH} {Q : Option AV → AG → AH → Prop} : wp d 211 1287 [l0, some (.inr (.inr (some x))), l2, l3] st G h Q = wp d 211 1288 [l0, some (.inr (.inr (some x))), l2, l3] (.inr (.inr (some x)) :: st) G h Q := wp_nx rfl
set_option maxRecDepth 100000 in
theorem X_211_1288 {d : Nat} {l0 l1 l2 l3 : Option AV} {o : Nat} {G : AG} {h : AH} {Q : Option AV → AG → AH → Prop} (hk : (shp G o).1 = 6 ∧ (shp G o).2 = 13) : wp d 211 1288 [l0, l1, l2, l3] (.inr (.inr (some o)) :: []) G h Q = call d 74 [.inr (.inr (some o))] G h (fun r G2 h2 => wp d 211 1291 [l0, l1, l2, l3] (pushR r []) G2 h2 Q) := x_inv (virt := 2) (as := [.inr (.inr (some o))]) (rest := []) rfl rfl rfl (Nat.le_of_ble_eq_true rfl) (rcv_ok hk)
set_option maxRecDepth 100000 in
theorem X_211_1291 {d : Nat} {l0 l1 l3 : Option AV} {st : List AV} {x : Nat} {G : AG} {h : AH} {Q : Option AV → AG → AH → Prop} : wp d 211 1291 [l0, l1, some (.inr (.inr (some x))), l3] st G h Q = wp d 211 1292 [l0, l1, some (.inr (.inr (some x))), l3] (.inr (.inr (some x)) :: st) G h Q := wp_nx rfl
set_option maxRecDepth 100000 in
theorem X_211_1292 {d : Nat} {l0 l1 l2 l3 : Option AV} {o : Nat} {s0 : AV} {G : AG} {h : AH} {Q : Option AV → AG → AH → Prop} (hk : (shp G o).1 = 7 ∧ (shp G o).2 = 20) : wp d 211 1292 [l0, l1, l2, l3] (.inr (.inr (some o)) :: [s0]) G h Q = call d 204 [.inr (.inr (some o))] G h (fun r G2 h2 => wp d 211 1295 [l0, l1, l2, l3] (pushR r [s0]) G2 h2 Q) := x_inv (virt := 3) (as := [.inr (.inr (some o))]) (rest := [s0]) rfl rfl rfl (Nat.le_of_ble_eq_true rfl) (rcv_ok hk)
set_option maxRecDepth 100000 in
theorem X_211_1295 {d : Nat} {l0 l1 l2 l3 : Option AV} {st : List AV} {x y : Int} {G : AG} {h : AH} {Q : Option AV → AG → AH → Prop} (hx : (((-2147483648 ≤ x ∧ x < 2147483648) ∧ (-2147483648 ≤ y ∧ y < 2147483648)) ∨ x = y)) : wp d 211 1295 [l0, l1, l2, l3] (.inl y :: .inl x :: st) G h Q = if x = y then wp d 211 1337 [l0, l1, l2, l3] st G h Q else wp d 211 1298 [l0, l1, l2, l3] st G h Q := x_icc (x = y) (tst_eq x y) rfl rfl hx
set_option maxRecDepth 100000 in
theorem X_211_1295_t {d : Nat} {l0 l1 l2 l3 : Option AV} {st : List AV} {x y : Int} {G : AG} {h : AH} {Q : Option AV → AG → AH → Prop} (hx : (((-2147483648 ≤ x ∧ x < 2147483648) ∧ (-2147483648 ≤ y ∧ y < 2147483648)) ∨ x = y) ∧ x = y) : wp d 211 1295 [l0, l1, l2, l3] (.inl y :: .inl x :: st) G h Q = wp d 211 1337 [l0, l1, l2, l3] st G h Q := x_ict (x = y) (tst_eq x y) rfl rfl hx
set_option maxRecDepth 100000 in
theorem X_211_1295_f {d : Nat} {l0 l1 l2 l3 : Option AV} {st : List AV} {x y : Int} {G : AG} {h : AH} {Q : Option AV → AG → AH → Prop} (hx : (((-2147483648 ≤ x ∧ x < 2147483648) ∧ (-2147483648 ≤ y ∧ y < 2147483648)) ∨ x = y) ∧ ¬ (x = y)) : wp d 211 1295 [l0, l1, l2, l3] (.inl y :: .inl x :: st) G h Q = wp d 211 1298 [l0, l1, l2, l3] st G h Q := x_icf (x = y) (tst_eq x y) (tgt := 1337) rfl rfl hx
set_option maxRecDepth 100000 in
theorem X_211_1298 {d : Nat} {l0 l1 l2 l3 : Option AV} {st : List AV} {G : AG} {h : AH} {Q : Option AV → AG → AH → Prop} : wp d 211 1298 [l0, l1, l2, l3] st G h Q = wp d 211 1299 [l0, l1, l2, l3] (.inl 0 :: st) G h Q := wp_nx rfl
set_option maxRecDepth 100000 in
theorem X_211_1299 {d : Nat} {l0 l1 l2 l3 : Option AV} {x : Int} {G : AG} {h : AH} {Q : Option AV → AG → AH → Prop} (hx : x = 0 ∨ x = 1) : wp d 211 1299 [l0, l1, l2, l3] [.inl x] G h Q = Q (some (.inl x)) G h := x_retZ rfl hx
set_option maxRecDepth 100000 in
theorem X_211_1300 {d : Nat} {l0 l2 l3 : Option AV} {st : List AV} {x : Nat} {G : AG} {h : AH} {Q : Option AV → AG → AH → Prop} : wp d 211 1300 [l0, some (.inr (.inr (some x))), l2, l3] st G h Q = wp d 211 1301 [l0, some (.inr (.inr (some x))), l2, l3] (.inr (.inr (some x)) :: st) G h Q := wp_nx rfl
set_option maxRecDepth 100000 in
theorem X_211_1301 {d : Nat} {l1 l2 l3 : Option AV} {st : List AV} {x : Nat} {G : AG} {h : AH} {Q : Option AV → AG → AH → Prop} : wp d 211 1301 [some (.inr (.inr (some x))), l1, l2, l3] st G h Q = wp d 211 1302 [some (.inr (.inr (some x))), l1, l2, l3] (.inr (.inr (some x)) :: st) G h Q := wp_nx rfl
set_option maxRecDepth 100000 in
theorem X_211_1302 {d : Nat} {l0 l1 l2 : Option AV} {st : List AV} {x : Int} {G : AG} {h : AH} {Q : Option AV → AG → AH → Prop} : wp d 211 1302 [l0, l1, l2, some (.inl x)] st G h Q = wp d 211 1303 [l0, l1, l2, some (.inl x)] (.inl x :: st) G h Q := wp_nx rfl
set_option maxRecDepth 100000 in
theorem X_211_1303 {d : Nat} {l0 l1 l2 l3 : Option AV} {st : List AV} {G : AG} {h : AH} {Q : Option AV → AG → AH → Prop} : wp d 211 1303 [l0, l1, l2, l3] st G h Q = wp d 211 1304 [l0, l1, l2, l3] (.inl 1 :: st) G h Q := wp_nx rfl
set_option maxRecDepth 100000 in
theorem X_211_1304 {d : Nat} {l0 l1 l2 l3 : Option AV} {st : List AV} {x y : Int} {G : AG} {h : AH} {Q : Option AV → AG → AH → Prop} : wp d 211 1304 [l0, l1, l2, l3] (.inl y :: .inl x :: st) G h Q = wp d 211 1305 [l0, l1, l2, l3] (.inl (x + y) :: st) G h Q := wp_nx rfl
set_option maxRecDepth 100000 in
theorem X_211_1305 {d : Nat} {l0 l1 l2 l3 : Option AV} {st : List AV} {i : Int} {G : AG} {h : AH} {Q : Option AV → AG → AH → Prop} (hk : 0 ≤ i ∧ i < h 1002 0 ∧ h 1002 0 ≤ 100000) : wp d 211 1305 [l0, l1, l2, l3] (.inl i :: .inr (.inr (some 1001)) :: st) G h Q = wp d 211 1306 [l0, l1, l2, l3] (.inl (h 1001 i.toNat) :: st) G h Q := x_scr rfl hk
set_option maxRecDepth 100000 in
theorem X_211_1306 {d : Nat} {l0 l1 l2 l3 : Option AV} {o : Nat} {a1 : AV} {G : AG} {h : AH} {Q : Option AV → AG → AH → Prop} (hk : (shp G o).1 = 6 ∧ (shp G o).2 = 13) : wp d 211 1306 [l0, l1, l2, l3] (a1 :: .inr (.inr (some o)) :: []) G h Q = call d 75 [.inr (.inr (some o)), a1] G h (fun r G2 h2 => wp d 211 1309 [l0, l1, l2, l3] (pushR r []) G2 h2 Q) := x_inv (virt := 2) (as := [.inr (.inr (some o)), a1]) (rest := []) rfl rfl rfl (Nat.le_of_ble_eq_true rfl) (rcv_ok hk)
set_option maxRecDepth 100000 in
theorem X_211_1309 {d : Nat} {l0 l1 l3 : Option AV} {st : List AV} {x : Nat} {G : AG} {h : AH} {Q : Option AV → AG → AH → Prop} : wp d 211 1309 [l0, l1, some (.inr (.inr (some x))), l3] st G h Q = wp d 211 1310 [l0, l1, some (.inr (.inr (some x))), l3] (.inr (.inr (some x)) :: st) G h Q := wp_nx rfl
set_option maxRecDepth 100000 in
theorem X_211_1310 {d : Nat} {l1 l2 l3 : Option AV} {st : List AV} {x : Nat} {G : AG} {h : AH} {Q : Option AV → AG → AH → Prop} : wp d 211 1310 [some (.inr (.inr (some x))), l1, l2, l3] st G h Q = wp d 211 1311 [some (.inr (.inr (some x))), l1, l2, l3] (.inr (.inr (some x)) :: st) G h Q := wp_nx rfl
set_option maxRecDepth 100000 in
theorem X_211_1311 {d : Nat} {l0 l1 l2 : Option AV} {st : List AV} {x : Int} {G : AG} {h : AH} {Q : Option AV → AG → AH → Prop} : wp d 211 1311 [l0, l1, l2, some (.inl x)] st G h Q = wp d 211 1312 [l0, l1, l2, some (.inl x)] (.inl x :: st) G h Q := wp_nx rfl
set_option maxRecDepth 100000 in
theorem X_211_1312 {d : Nat} {l0 l1 l2 l3 : Option AV} {st : List AV} {G : AG} {h : AH} {Q : Option AV → AG → AH → Prop} : wp d 211 1312 [l0, l1, l2, l3] st G h Q = wp d 211 1313 [l0, l1, l2, l3] (.inl 1 :: st) G h Q := wp_nx rfl
set_option maxRecDepth 100000 in
theorem X_211_1313 {d : Nat} {l0 l1 l2 l3 : Option AV} {st : List AV} {x y : Int} {G : AG} {h : AH} {Q : Option AV → AG → AH → Prop} : wp d 211 1313 [l0, l1, l2, l3] (.inl y :: .inl x :: st) G h Q = wp d 211 1314 [l0, l1, l2, l3] (.inl (x + y) :: st) G h Q := wp_nx rfl
set_option maxRecDepth 100000 in
theorem X_211_1314 {d : Nat} {l0 l1 l2 l3 : Option AV} {st : List AV} {i : Int} {G : AG} {h : AH} {Q : Option AV → AG → AH → Prop} (hk : 0 ≤ i ∧ i < h 1002 0 ∧ h 1002 0 ≤ 100000) : wp d 211 1314 [l0, l1, l2, l3] (.inl i :: .inr (.inr (some 1001)) :: st) G h Q = wp d 211 1315 [l0, l1, l2, l3] (.inl (h 1001 i.toNat) :: st) G h Q := x_scr rfl hk
set_option maxRecDepth 100000 in
theorem X_211_1315 {d : Nat} {l0 l1 l2 l3 : Option AV} {o : Nat} {a1 : AV} {s0 : AV} {G : AG} {h : AH} {Q : Option AV → AG → AH → Prop} (hk : (shp G o).1 = 7 ∧ (shp G o).2 = 20) : wp d 211 1315 [l0, l1, l2, l3] (a1 :: .inr (.inr (some o)) :: [s0]) G h Q = call d 205 [.inr (.inr (some o)), a1] G h (fun r G2 h2 => wp d 211 1318 [l0, l1, l2, l3] (pushR r [s0]) G2 h2 Q) := x_inv (virt := 3) (as := [.inr (.inr (some o)), a1]) (rest := [s0]) rfl rfl rfl (Nat.le_of_ble_eq_true rfl) (rcv_ok hk)
set_option maxRecDepth 100000 in
theorem X_211_1318 {d : Nat} {l0 l1 l2 l3 : Option AV} {st : List AV} {x y : Int} {G : AG} {h : AH} {Q : Option AV → AG → AH → Prop} (hx : (((-2147483648 ≤ x ∧ x < 2147483648) ∧ (-2147483648 ≤ y ∧ y < 2147483648)) ∨ x = y)) : wp d 211 1318 [l0, l1, l2, l3] (.inl y :: .inl x :: st) G h Q = if x = y then wp d 211 1337 [l0, l1, l2, l3] st G h Q else wp d 211 1321 [l0, l1, l2, l3] st G h Q := x_icc (x = y) (tst_eq x y) rfl rfl hx
set_option maxRecDepth 100000 in
theorem X_211_1318_t {d : Nat} {l0 l1 l2 l3 : Option AV} {st : List AV} {x y : Int} {G : AG} {h : AH} {Q : Option AV → AG → AH → Prop} (hx : (((-2147483648 ≤ x ∧ x < 2147483648) ∧ (-2147483648 ≤ y ∧ y < 2147483648)) ∨ x = y) ∧ x = y) : wp d 211 1318 [l0, l1, l2, l3] (.inl y :: .inl x :: st) G h Q = wp d 211 1337 [l0, l1, l2, l3] st G h Q := x_ict (x = y) (tst_eq x y) rfl rfl hx
set_option maxRecDepth 100000 in
theorem X_211_1318_f {d : Nat} {l0 l1 l2 l3 : Option AV} {st : List AV} {x y : Int} {G : AG} {h : AH} {Q : Option AV → AG → AH → Prop} (hx : (((-2147483648 ≤ x ∧ x < 2147483648) ∧ (-2147483648 ≤ y ∧ y < 2147483648)) ∨ x = y) ∧ ¬ (x = y)) : wp d 211 1318 [l0, l1, l2, l3] (.inl y :: .inl x :: st) G h Q = wp d 211 1321 [l0, l1, l2, l3] st G h Q := x_icf (x = y) (tst_eq x y) (tgt := 1337) rfl rfl hx
set_option maxRecDepth 100000 in
theorem X_211_1321 {d : Nat} {l0 l1 l2 l3 : Option AV} {st : List AV} {G : AG} {h : AH} {Q : Option AV → AG → AH → Prop} : wp d 211 1321 [l0, l1, l2, l3] st G h Q = wp d 211 1322 [l0, l1, l2, l3] (.inl 0 :: st) G h Q := wp_nx rfl
set_option maxRecDepth 100000 in
theorem X_211_1322 {d : Nat} {l0 l1 l2 l3 : Option AV} {x : Int} {G : AG} {h : AH} {Q : Option AV → AG → AH → Prop} (hx : x = 0 ∨ x = 1) : wp d 211 1322 [l0, l1, l2, l3] [.inl x] G h Q = Q (some (.inl x)) G h := x_retZ rfl hx
set_option maxRecDepth 100000 in
theorem X_211_1323 {d : Nat} {l0 l2 l3 : Option AV} {st : List AV} {x : Nat} {G : AG} {h : AH} {Q : Option AV → AG → AH → Prop} : wp d 211 1323 [l0, some (.inr (.inr (some x))), l2, l3] st G h Q = wp d 211 1324 [l0, some (.inr (.inr (some x))), l2, l3] (.inr (.inr (some x)) :: st) G h Q := wp_nx rfl
set_option maxRecDepth 100000 in
theorem X_211_1324 {d : Nat} {l0 l1 l2 l3 : Option AV} {o : Nat} {G : AG} {h : AH} {Q : Option AV → AG → AH → Prop} (hk : (shp G o).1 = 6 ∧ (shp G o).2 = 13) : wp d 211 1324 [l0, l1, l2, l3] (.inr (.inr (some o)) :: []) G h Q = call d 76 [.inr (.inr (some o))] G h (fun r G2 h2 => wp d 211 1327 [l0, l1, l2, l3] (pushR r []) G2 h2 Q) := x_inv (virt := 2) (as := [.inr (.inr (some o))]) (rest := []) rfl rfl rfl (Nat.le_of_ble_eq_true rfl) (rcv_ok hk)
set_option maxRecDepth 100000 in
theorem X_211_1327 {d : Nat} {l0 l1 l3 : Option AV} {st : List AV} {x : Nat} {G : AG} {h : AH} {Q : Option AV → AG → AH → Prop} : wp d 211 1327 [l0, l1, some (.inr (.inr (some x))), l3] st G h Q = wp d 211 1328 [l0, l1, some (.inr (.inr (some x))), l3] (.inr (.inr (some x)) :: st) G h Q := wp_nx rfl
set_option maxRecDepth 100000 in
theorem X_211_1328 {d : Nat} {l0 l1 l2 l3 : Option AV} {o : Nat} {s0 : AV} {G : AG} {h : AH} {Q : Option AV → AG → AH → Prop} (hk : (shp G o).1 = 7 ∧ (shp G o).2 = 20) : wp d 211 1328 [l0, l1, l2, l3] (.inr (.inr (some o)) :: [s0]) G h Q = call d 206 [.inr (.inr (some o))] G h (fun r G2 h2 => wp d 211 1331 [l0, l1, l2, l3] (pushR r [s0]) G2 h2 Q) := x_inv (virt := 3) (as := [.inr (.inr (some o))]) (rest := [s0]) rfl rfl rfl (Nat.le_of_ble_eq_true rfl) (rcv_ok hk)
set_option maxRecDepth 100000 in
theorem X_211_1331 {d : Nat} {l0 l1 l2 l3 : Option AV} {st : List AV} {x y : Int} {G : AG} {h : AH} {Q : Option AV → AG → AH → Prop} (hx : x = y ∨ ((-9223372036854775808 ≤ x ∧ x < 9223372036854775808) ∧ (-9223372036854775808 ≤ y ∧ y < 9223372036854775808))) : wp d 211 1331 [l0, l1, l2, l3] (.inr (.inl y) :: .inr (.inl x) :: st) G h Q = wp d 211 1332 [l0, l1, l2, l3] (.inl (if x = y then 0 else if y < x then 1 else -1) :: st) G h Q := x_lcmp rfl hx
set_option maxRecDepth 100000 in
theorem X_211_1332 {d : Nat} {l0 l1 l2 l3 : Option AV} {st : List AV} {x : Int} {G : AG} {h : AH} {Q : Option AV → AG → AH → Prop} (hx : (-2147483648 ≤ x ∧ x < 2147483648)) : wp d 211 1332 [l0, l1, l2, l3] (.inl x :: st) G h Q = if x = 0 then wp d 211 1337 [l0, l1, l2, l3] st G h Q else wp d 211 1335 [l0, l1, l2, l3] st G h Q := x_ifc (x = 0) (tst_eq x 0) rfl rfl hx
set_option maxRecDepth 100000 in
theorem X_211_1332_t {d : Nat} {l0 l1 l2 l3 : Option AV} {st : List AV} {x : Int} {G : AG} {h : AH} {Q : Option AV → AG → AH → Prop} (hx : (-2147483648 ≤ x ∧ x < 2147483648) ∧ x = 0) : wp d 211 1332 [l0, l1, l2, l3] (.inl x :: st) G h Q = wp d 211 1337 [l0, l1, l2, l3] st G h Q := x_ift (x = 0) (tst_eq x 0) rfl rfl hx
set_option maxRecDepth 100000 in
theorem X_211_1332_f {d : Nat} {l0 l1 l2 l3 : Option AV} {st : List AV} {x : Int} {G : AG} {h : AH} {Q : Option AV → AG → AH → Prop} (hx : (-2147483648 ≤ x ∧ x < 2147483648) ∧ ¬ (x = 0)) : wp d 211 1332 [l0, l1, l2, l3] (.inl x :: st) G h Q = wp d 211 1335 [l0, l1, l2, l3] st G h Q := x_iff (x = 0) (tst_eq x 0) (tgt := 1337) rfl rfl hx
set_option maxRecDepth 100000 in
theorem X_211_1335 {d : Nat} {l0 l1 l2 l3 : Option AV} {st : List AV} {G : AG} {h : AH} {Q : Option AV → AG → AH → Prop} : wp d 211 1335 [l0, l1, l2, l3] st G h Q = wp d 211 1336 [l0, l1, l2, l3] (.inl 0 :: st) G h Q := wp_nx rfl
set_option maxRecDepth 100000 in
theorem X_211_1336 {d : Nat} {l0 l1 l2 l3 : Option AV} {x : Int} {G : AG} {h : AH} {Q : Option AV → AG → AH → Prop} (hx : x = 0 ∨ x = 1) : wp d 211 1336 [l0, l1, l2, l3] [.inl x] G h Q = Q (some (.inl x)) G h := x_retZ rfl hx
set_option maxRecDepth 100000 in
theorem X_211_1337 {d : Nat} {l0 l1 l2 : Option AV} {st : List AV} {x : Int} {G : AG} {h : AH} {Q : Option AV → AG → AH → Prop} : wp d 211 1337 [l0, l1, l2, some (.inl x)] st G h Q = wp d 211 1340 [l0, l1, fixp l2, some (.inl (x + 6))] st G h Q := wp_nx rfl
set_option maxRecDepth 100000 in
theorem X_211_1340 {d : Nat} {l0 l1 l2 l3 : Option AV} {st : List AV} {G : AG} {h : AH} {Q : Option AV → AG → AH → Prop} : wp d 211 1340 [l0, l1, l2, l3] st G h Q = wp d 211 18 [l0, l1, l2, l3] st G h Q := x_goto rfl rfl
set_option maxRecDepth 100000 in
theorem X_211_1343 {d : Nat} {l0 l1 l2 l3 : Option AV} {st : List AV} {G : AG} {h : AH} {Q : Option AV → AG → AH → Prop} : wp d 211 1343 [l0, l1, l2, l3] st G h Q = wp d 211 1344 [l0, l1, l2, l3] (.inl 1 :: st) G h Q := wp_nx rfl
set_option maxRecDepth 100000 in
theorem X_211_1344 {d : Nat} {l0 l1 l2 l3 : Option AV} {x : Int} {G : AG} {h : AH} {Q : Option AV → AG → AH → Prop} (hx : x = 0 ∨ x = 1) : wp d 211 1344 [l0, l1, l2, l3] [.inl x] G h Q = Q (some (.inl x)) G h := x_retZ rfl hx
set_option maxRecDepth 100000 in
theorem C_211 {d : Nat} {p0 : Nat} {G : AG} {h : AH} {Q : Option AV → AG → AH → Prop} : call (d + 1) 211 [.inr (.inr (some p0))] G h Q = wp d 211 0 [some (.inr (.inr (some p0))), none, none, none] [] G h Q := call_wp (Nat.le_of_ble_eq_true rfl)
