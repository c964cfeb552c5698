/-! 24: the cells as they are behind the two constructors, and what is said of them -/
def G1 : AG := ([(6, 13), (2, 6), (2, 4), (5, 9), (0, 14), (0, 14), (0, 14), (0, 14), (0, 14), (0, 40), (5, 9), (0, 14), (0, 14), (0, 14), (0, 14), (0, 14), (0, 40), (3, 3), (0, 6), (0, 14), (0, 5), (0, 11), (4, 3), (0, 40), (4, 3), (0, 40), (4, 3), (0, 40), (4, 3), (0, 40), (4, 3), (0, 40), (4, 3), (0, 40), (4, 3), (0, 60), (4, 3), (0, 60), (4, 3), (0, 60), (4, 3), (0, 60), (5, 9), (0, 14), (0, 14), (0, 14), (0, 14), (0, 14), (0, 40), (5, 9), (0, 14), (0, 14), (0, 14), (0, 14), (0, 14), (0, 40), (5, 9), (0, 14), (0, 14), (0, 14), (0, 14), (0, 14), (0, 40), (7, 20), (0, 98), (0, 294), (1, 3), (0, 240), (0, 6), (0, 240), (0, 4), (0, 6), (0, 40), (0, 28), (0, 98), (0, 6), (0, 686), (0, 7), (0, 7)],
  [[some 1, some 2, some 3, some 10, some 17, some 18, some 19, some 20, some 21, none, none, none, none], [some 22, some 24, some 26, some 28, some 30, some 32], [some 34, some 36, some 38, some 40], [some 4, some 5, some 6, some 7, some 8, some 9, none, none, none], [], [], [], [], [], [], [some 11, some 12, some 13, some 14, some 15, some 16, none, none, none], [], [], [], [], [], [], [some 42, some 49, some 56], [], [], [], [], [some 23, none, none], [], [some 25, none, none], [], [some 27, none, none], [], [some 29, none, none], [], [some 31, none, none], [], [some 33, none, none], [], [some 35, none, none], [], [some 37, none, none], [], [some 39, none, none], [], [some 41, none, none], [], [some 43, some 44, some 45, some 46, some 47, some 48, none, none, none], [], [], [], [], [], [], [some 50, some 51, some 52, some 53, some 54, some 55, none, none, none], [], [], [], [], [], [], [some 57, some 58, some 59, some 60, some 61, some 62, none, none, none], [], [], [], [], [], [], [some 64, none, some 65, some 66, some 67, some 68, some 69, some 70, some 71, none, none, none, none, some 72, some 73, some 74, some 75, some 76, some 77, some 78], [], [], [], [], [], [], [], [], [], [], [], [], [], [], []])
theorem pushR_some {v : AV} {st : List AV} : pushR (some v) st = v :: st := rfl
theorem pushR_none {st : List AV} : pushR none st = st := rfl
theorem fixp_n : fixp none = none := rfl
theorem fixp_i {x : Int} : fixp (some (.inl x)) = some (.inl x) := rfl
theorem fixp_l {x : Int} : fixp (some (.inr (.inl x))) = none := rfl
theorem fixp_r {r : Option Nat} : fixp (some (.inr (.inr r))) = some (.inr (.inr r)) := rfl
theorem toNat_ofNat {n : Nat} : (OfNat.ofNat n : Int).toNat = OfNat.ofNat n := rfl
theorem put_at {h : AH} {a k : Nat} {v : Int} {a' k' : Nat} : put h a k v a' k' = if a' = a ∧ k' = k then v else h a' k' := rfl
theorem put_s {h : AH} {a k : Nat} {v : Int} : put h a k v a k = v := by simp [put]
theorem put_na {h : AH} {a k : Nat} {v : Int} {a' k' : Nat} (hn : ¬ a' = a) : put h a k v a' k' = h a' k' := by simp [put, hn]
theorem put_nk {h : AH} {a k : Nat} {v : Int} {a' k' : Nat} (hn : ¬ k' = k) : put h a k v a' k' = h a' k' := by simp [put, hn]
theorem put_row {h : AH} {a k : Nat} {v : Int} {a' : Nat} (hn : ¬ a' = a) : put h a k v a' = h a' := by funext j; exact put_na hn
theorem pos_of {d n : Nat} (h : n + 1 ≤ d) : ∃ e, d = e + 1 ∧ n ≤ e := ⟨d - 1, by omega, by omega⟩
theorem g1_0 : (shp G1 0).1 = 6 ∧ (shp G1 0).2 = 13 := by decide
theorem g1_1 : (shp G1 1).1 = 2 ∧ (shp G1 1).2 = 6 := by decide
theorem g1_2 : (shp G1 2).1 = 2 ∧ (shp G1 2).2 = 4 := by decide
theorem g1_3 : (shp G1 3).1 = 5 ∧ (shp G1 3).2 = 9 := by decide
theorem g1_4 : (shp G1 4).1 = 0 ∧ (shp G1 4).2 = 14 := by decide
theorem g1_5 : (shp G1 5).1 = 0 ∧ (shp G1 5).2 = 14 := by decide
theorem g1_6 : (shp G1 6).1 = 0 ∧ (shp G1 6).2 = 14 := by decide
theorem g1_7 : (shp G1 7).1 = 0 ∧ (shp G1 7).2 = 14 := by decide
theorem g1_8 : (shp G1 8).1 = 0 ∧ (shp G1 8).2 = 14 := by decide
theorem g1_9 : (shp G1 9).1 = 0 ∧ (shp G1 9).2 = 40 := by decide
theorem g1_10 : (shp G1 10).1 = 5 ∧ (shp G1 10).2 = 9 := by decide
theorem g1_11 : (shp G1 11).1 = 0 ∧ (shp G1 11).2 = 14 := by decide
theorem g1_12 : (shp G1 12).1 = 0 ∧ (shp G1 12).2 = 14 := by decide
theorem g1_13 : (shp G1 13).1 = 0 ∧ (shp G1 13).2 = 14 := by decide
theorem g1_14 : (shp G1 14).1 = 0 ∧ (shp G1 14).2 = 14 := by decide
theorem g1_15 : (shp G1 15).1 = 0 ∧ (shp G1 15).2 = 14 := by decide
theorem g1_16 : (shp G1 16).1 = 0 ∧ (shp G1 16).2 = 40 := by decide
theorem g1_17 : (shp G1 17).1 = 3 ∧ (shp G1 17).2 = 3 := by decide
theorem g1_18 : (shp G1 18).1 = 0 ∧ (shp G1 18).2 = 6 := by decide
theorem g1_19 : (shp G1 19).1 = 0 ∧ (shp G1 19).2 = 14 := by decide
theorem g1_20 : (shp G1 20).1 = 0 ∧ (shp G1 20).2 = 5 := by decide
theorem g1_21 : (shp G1 21).1 = 0 ∧ (shp G1 21).2 = 11 := by decide
theorem g1_22 : (shp G1 22).1 = 4 ∧ (shp G1 22).2 = 3 := by decide
theorem g1_23 : (shp G1 23).1 = 0 ∧ (shp G1 23).2 = 40 := by decide
theorem g1_24 : (shp G1 24).1 = 4 ∧ (shp G1 24).2 = 3 := by decide
theorem g1_25 : (shp G1 25).1 = 0 ∧ (shp G1 25).2 = 40 := by decide
theorem g1_26 : (shp G1 26).1 = 4 ∧ (shp G1 26).2 = 3 := by decide
theorem g1_27 : (shp G1 27).1 = 0 ∧ (shp G1 27).2 = 40 := by decide
theorem g1_28 : (shp G1 28).1 = 4 ∧ (shp G1 28).2 = 3 := by decide
theorem g1_29 : (shp G1 29).1 = 0 ∧ (shp G1 29).2 = 40 := by decide
theorem g1_30 : (shp G1 30).1 = 4 ∧ (shp G1 30).2 = 3 := by decide
theorem g1_31 : (shp G1 31).1 = 0 ∧ (shp G1 31).2 = 40 := by decide
theorem g1_32 : (shp G1 32).1 = 4 ∧ (shp G1 32).2 = 3 := by decide
theorem g1_33 : (shp G1 33).1 = 0 ∧ (shp G1 33).2 = 40 := by decide
theorem g1_34 : (shp G1 34).1 = 4 ∧ (shp G1 34).2 = 3 := by decide
theorem g1_35 : (shp G1 35).1 = 0 ∧ (shp G1 35).2 = 60 := by decide
theorem g1_36 : (shp G1 36).1 = 4 ∧ (shp G1 36).2 = 3 := by decide
theorem g1_37 : (shp G1 37).1 = 0 ∧ (shp G1 37).2 = 60 := by decide
theorem g1_38 : (shp G1 38).1 = 4 ∧ (shp G1 38).2 = 3 := by decide
theorem g1_39 : (shp G1 39).1 = 0 ∧ (shp G1 39).2 = 60 := by decide
theorem g1_40 : (shp G1 40).1 = 4 ∧ (shp G1 40).2 = 3 := by decide
theorem g1_41 : (shp G1 41).1 = 0 ∧ (shp G1 41).2 = 60 := by decide
theorem g1_42 : (shp G1 42).1 = 5 ∧ (shp G1 42).2 = 9 := by decide
theorem g1_43 : (shp G1 43).1 = 0 ∧ (shp G1 43).2 = 14 := by decide
theorem g1_44 : (shp G1 44).1 = 0 ∧ (shp G1 44).2 = 14 := by decide
theorem g1_45 : (shp G1 45).1 = 0 ∧ (shp G1 45).2 = 14 := by decide
theorem g1_46 : (shp G1 46).1 = 0 ∧ (shp G1 46).2 = 14 := by decide
theorem g1_47 : (shp G1 47).1 = 0 ∧ (shp G1 47).2 = 14 := by decide
theorem g1_48 : (shp G1 48).1 = 0 ∧ (shp G1 48).2 = 40 := by decide
theorem g1_49 : (shp G1 49).1 = 5 ∧ (shp G1 49).2 = 9 := by decide
theorem g1_50 : (shp G1 50).1 = 0 ∧ (shp G1 50).2 = 14 := by decide
theorem g1_51 : (shp G1 51).1 = 0 ∧ (shp G1 51).2 = 14 := by decide
theorem g1_52 : (shp G1 52).1 = 0 ∧ (shp G1 52).2 = 14 := by decide
theorem g1_53 : (shp G1 53).1 = 0 ∧ (shp G1 53).2 = 14 := by decide
theorem g1_54 : (shp G1 54).1 = 0 ∧ (shp G1 54).2 = 14 := by decide
theorem g1_55 : (shp G1 55).1 = 0 ∧ (shp G1 55).2 = 40 := by decide
theorem g1_56 : (shp G1 56).1 = 5 ∧ (shp G1 56).2 = 9 := by decide
theorem g1_57 : (shp G1 57).1 = 0 ∧ (shp G1 57).2 = 14 := by decide
theorem g1_58 : (shp G1 58).1 = 0 ∧ (shp G1 58).2 = 14 := by decide
theorem g1_59 : (shp G1 59).1 = 0 ∧ (shp G1 59).2 = 14 := by decide
theorem g1_60 : (shp G1 60).1 = 0 ∧ (shp G1 60).2 = 14 := by decide
theorem g1_61 : (shp G1 61).1 = 0 ∧ (shp G1 61).2 = 14 := by decide
theorem g1_62 : (shp G1 62).1 = 0 ∧ (shp G1 62).2 = 40 := by decide
theorem g1_63 : (shp G1 63).1 = 7 ∧ (shp G1 63).2 = 20 := by decide
theorem g1_64 : (shp G1 64).1 = 0 ∧ (shp G1 64).2 = 98 := by decide
theorem g1_65 : (shp G1 65).1 = 0 ∧ (shp G1 65).2 = 294 := by decide
theorem g1_66 : (shp G1 66).1 = 1 ∧ (shp G1 66).2 = 3 := by decide
theorem g1_67 : (shp G1 67).1 = 0 ∧ (shp G1 67).2 = 240 := by decide
theorem g1_68 : (shp G1 68).1 = 0 ∧ (shp G1 68).2 = 6 := by decide
theorem g1_69 : (shp G1 69).1 = 0 ∧ (shp G1 69).2 = 240 := by decide
theorem g1_70 : (shp G1 70).1 = 0 ∧ (shp G1 70).2 = 4 := by decide
theorem g1_71 : (shp G1 71).1 = 0 ∧ (shp G1 71).2 = 6 := by decide
theorem g1_72 : (shp G1 72).1 = 0 ∧ (shp G1 72).2 = 40 := by decide
theorem g1_73 : (shp G1 73).1 = 0 ∧ (shp G1 73).2 = 28 := by decide
theorem g1_74 : (shp G1 74).1 = 0 ∧ (shp G1 74).2 = 98 := by decide
theorem g1_75 : (shp G1 75).1 = 0 ∧ (shp G1 75).2 = 6 := by decide
theorem g1_76 : (shp G1 76).1 = 0 ∧ (shp G1 76).2 = 686 := by decide
theorem g1_77 : (shp G1 77).1 = 0 ∧ (shp G1 77).2 = 7 := by decide
theorem g1_78 : (shp G1 78).1 = 0 ∧ (shp G1 78).2 = 7 := by decide
def isToy (t : Nat) : Prop := t = 3 ∨ t = 10 ∨ t = 42 ∨ t = 49 ∨ t = 56
theorem toy_s {t : Nat} (h : isToy t) : ((shp G1 t).1 = 5 ∧ (shp G1 t).2 = 9) ∧ ((shp G1 (t + 1)).1 = 0 ∧ (shp G1 (t + 1)).2 = 14) ∧ ((shp G1 (t + 2)).1 = 0 ∧ (shp G1 (t + 2)).2 = 14) ∧ ((shp G1 (t + 3)).1 = 0 ∧ (shp G1 (t + 3)).2 = 14) ∧ ((shp G1 (t + 4)).1 = 0 ∧ (shp G1 (t + 4)).2 = 14) ∧ ((shp G1 (t + 5)).1 = 0 ∧ (shp G1 (t + 5)).2 = 14) ∧ ((shp G1 (t + 6)).1 = 0 ∧ (shp G1 (t + 6)).2 = 40) ∧ t < 900 := by
  rcases h with rfl | rfl | rfl | rfl | rfl <;> decide
theorem toy_r {t : Nat} (h : isToy t) : rfs G1 t 0 = some (t + 1) ∧ rfs G1 t 1 = some (t + 2) ∧ rfs G1 t 2 = some (t + 3) ∧ rfs G1 t 3 = some (t + 4) ∧ rfs G1 t 4 = some (t + 5) ∧ rfs G1 t 5 = some (t + 6) := by
  rcases h with rfl | rfl | rfl | rfl | rfl <;> decide
/-- a row or a text: r rows 22, 24 .. 32, texts 34 .. 40 -/
def isRw (q : Nat) : Prop := q = 22 ∨ q = 24 ∨ q = 26 ∨ q = 28 ∨ q = 30 ∨ q = 32 ∨ q = 34 ∨ q = 36 ∨ q = 38 ∨ q = 40
def rwL (q : Nat) : Nat := if q < 34 then 40 else 60
theorem rw_s {q : Nat} (h : isRw q) : ((shp G1 q).1 = 4 ∧ (shp G1 q).2 = 3) ∧ ((shp G1 (q + 1)).1 = 0 ∧ (shp G1 (q + 1)).2 = rwL q) ∧ rfs G1 q 0 = some (q + 1) ∧ q < 900 ∧ 40 ≤ rwL q ∧ rwL q ≤ 60 := by
  rcases h with rfl | rfl | rfl | rfl | rfl | rfl | rfl | rfl | rfl | rfl <;> decide
theorem rows_r {r : Nat} (h : r < 6) : rfs G1 1 r = some (22 + 2 * r) ∧ isRw (22 + 2 * r) := by
  have : r = 0 ∨ r = 1 ∨ r = 2 ∨ r = 3 ∨ r = 4 ∨ r = 5 := by omega
  rcases this with rfl | rfl | rfl | rfl | rfl | rfl <;> exact ⟨by decide, by unfold isRw; omega⟩
theorem texts_r {r : Nat} (h : r < 4) : rfs G1 2 r = some (34 + 2 * r) ∧ isRw (34 + 2 * r) := by
  have : r = 0 ∨ r = 1 ∨ r = 2 ∨ r = 3 := by omega
  rcases this with rfl | rfl | rfl | rfl <;> exact ⟨by decide, by unfold isRw; omega⟩
theorem kept_r {r : Nat} (h : r < 3) : rfs G1 17 r = some (42 + 7 * r) ∧ isToy (42 + 7 * r) := by
  have : r = 0 ∨ r = 1 ∨ r = 2 := by omega
  rcases this with rfl | rfl | rfl <;> exact ⟨by decide, by unfold isToy; omega⟩
theorem r1_0_0 : rfs G1 0 0 = some 1 := by decide
theorem r1_0_1 : rfs G1 0 1 = some 2 := by decide
theorem r1_0_2 : rfs G1 0 2 = some 3 := by decide
theorem r1_0_3 : rfs G1 0 3 = some 10 := by decide
theorem r1_0_4 : rfs G1 0 4 = some 17 := by decide
theorem r1_0_5 : rfs G1 0 5 = some 18 := by decide
theorem r1_0_6 : rfs G1 0 6 = some 19 := by decide
theorem r1_0_7 : rfs G1 0 7 = some 20 := by decide
theorem r1_0_8 : rfs G1 0 8 = some 21 := by decide
theorem r1_63_0 : rfs G1 63 0 = some 64 := by decide
theorem r1_63_2 : rfs G1 63 2 = some 65 := by decide
theorem r1_63_3 : rfs G1 63 3 = some 66 := by decide
theorem r1_63_4 : rfs G1 63 4 = some 67 := by decide
theorem r1_63_5 : rfs G1 63 5 = some 68 := by decide
theorem r1_63_6 : rfs G1 63 6 = some 69 := by decide
theorem r1_63_7 : rfs G1 63 7 = some 70 := by decide
theorem r1_63_8 : rfs G1 63 8 = some 71 := by decide
theorem r1_63_13 : rfs G1 63 13 = some 72 := by decide
theorem r1_63_14 : rfs G1 63 14 = some 73 := by decide
theorem r1_63_15 : rfs G1 63 15 = some 74 := by decide
theorem r1_63_16 : rfs G1 63 16 = some 75 := by decide
theorem r1_63_17 : rfs G1 63 17 = some 76 := by decide
theorem r1_63_18 : rfs G1 63 18 = some 77 := by decide
theorem r1_63_19 : rfs G1 63 19 = some 78 := by decide
