/-! 83: the law, case by case -/
theorem nA2 {i : Nat} : (i : Int) + 2 = ((i + 2 : Nat) : Int) := rfl
theorem nA3 {i : Nat} : (i : Int) + 3 = ((i + 3 : Nat) : Int) := rfl
theorem nA4 {i : Nat} : (i : Int) + 4 = ((i + 4 : Nat) : Int) := rfl
theorem nA5 {i : Nat} : (i : Int) + 5 = ((i + 5 : Nat) : Int) := rfl
theorem n66 {n : Nat} : ((6 * n : Nat) : Int) + 6 = ((6 * (n + 1) : Nat) : Int) := by omega
/-- the script is as it was, and its ints are ints -/
def SCR (L : Nat) (h : AH) : Prop := h 1002 0 = (L : Int) ∧ L ≤ 3072 ∧ ∀ j, -2147483648 ≤ h 1001 j ∧ h 1001 j < 2147483648
def NXT (L n : Nat) (h : AH) (Q : Option AV → AG → AH → Prop) : Prop := ∀ h2 : AH, INV (n + 1) h2 → (∀ a, 1000 ≤ a → h2 a = h a) → wp 30 211 18 [some (.inr (.inr (some 1001))), some (.inr (.inr (some 0))), some (.inr (.inr (some 63))), some (.inl ((6 * (n + 1) : Nat) : Int))] [] G1 h2 Q
set_option maxRecDepth 100000 in
theorem LC_0 {L n : Nat} {h : AH} {Q : Option AV → AG → AH → Prop} (H : INV n h) (hn : n < 512) (hS : SCR L h) (hL : 6 * n + 6 ≤ L) (K : NXT L n h Q) : wp 30 211 200 [some (.inr (.inr (some 1001))), some (.inr (.inr (some 0))), some (.inr (.inr (some 63))), some (.inl ((6 * n : Nat) : Int))] [] G1 h Q := by
  obtain ⟨r, h1, h2, hr, c1, c2, I⟩ := Op_row (hS.2.2 (6 * n + 1)) (hS.2.2 (6 * n + 2)) n h H hn
  have g0 := g1_0
  have g63 := g1_63
  have k1 := call_keep gN_G1 c1
  have k2 := call_keep gN_G1 c2
  have e1 : h1 1001 = h 1001 := k1 1001 (by omega)
  have b0 := hS.1
  have b00 := hS.2.1
  have b1 : h1 1002 0 = (L : Int) := by rw [k1 1002 (by omega)]; exact b0
  have q := K h2 I (fun a ha => by rw [k2 a ha, k1 a ha])
  simp (disch := omega) only [X_211_200, X_211_201, X_211_202, X_211_203, X_211_204, X_211_205, X_211_206, X_211_207, X_211_208, X_211_209, X_211_210, X_211_211, X_211_214, X_211_215, X_211_216, X_211_217, X_211_218, X_211_219, X_211_220, X_211_221, X_211_222, X_211_223, X_211_224, X_211_225, X_211_228, X_211_228_f, X_211_228_t, X_211_231, X_211_232, X_211_1337, X_211_1340, natS, nA2, nA3, nA4, nA5, Int.toNat_natCast, c1, e1, c2, pushR_some, fixp_r, fixp_i, n66]
  exact q
set_option maxRecDepth 100000 in
theorem LC_1 {L n : Nat} {h : AH} {Q : Option AV → AG → AH → Prop} (H : INV n h) (hn : n < 512) (hS : SCR L h) (hL : 6 * n + 6 ≤ L) (K : NXT L n h Q) : wp 30 211 233 [some (.inr (.inr (some 1001))), some (.inr (.inr (some 0))), some (.inr (.inr (some 63))), some (.inl ((6 * n : Nat) : Int))] [] G1 h Q := by
  obtain ⟨r, h1, h2, hr, c1, c2, I⟩ := Op_lay (hS.2.2 (6 * n + 1)) (hS.2.2 (6 * n + 2)) (hS.2.2 (6 * n + 3)) n h H hn
  have g0 := g1_0
  have g63 := g1_63
  have k1 := call_keep gN_G1 c1
  have k2 := call_keep gN_G1 c2
  have e1 : h1 1001 = h 1001 := k1 1001 (by omega)
  have b0 := hS.1
  have b00 := hS.2.1
  have b1 : h1 1002 0 = (L : Int) := by rw [k1 1002 (by omega)]; exact b0
  have q := K h2 I (fun a ha => by rw [k2 a ha, k1 a ha])
  simp (disch := omega) only [X_211_233, X_211_234, X_211_235, X_211_236, X_211_237, X_211_238, X_211_239, X_211_240, X_211_241, X_211_242, X_211_243, X_211_244, X_211_245, X_211_246, X_211_247, X_211_248, X_211_249, X_211_252, X_211_253, X_211_254, X_211_255, X_211_256, X_211_257, X_211_258, X_211_259, X_211_260, X_211_261, X_211_262, X_211_263, X_211_264, X_211_265, X_211_266, X_211_267, X_211_268, X_211_271, X_211_271_f, X_211_271_t, X_211_274, X_211_275, X_211_1337, X_211_1340, natS, nA2, nA3, nA4, nA5, Int.toNat_natCast, c1, e1, c2, pushR_some, fixp_r, fixp_i, n66]
  exact q
set_option maxRecDepth 100000 in
theorem LC_2 {L n : Nat} {h : AH} {Q : Option AV → AG → AH → Prop} (H : INV n h) (hn : n < 512) (hS : SCR L h) (hL : 6 * n + 6 ≤ L) (K : NXT L n h Q) : wp 30 211 276 [some (.inr (.inr (some 1001))), some (.inr (.inr (some 0))), some (.inr (.inr (some 63))), some (.inl ((6 * n : Nat) : Int))] [] G1 h Q := by
  obtain ⟨r, h1, h2, hr, c1, c2, I⟩ := Op_at (hS.2.2 (6 * n + 1)) (hS.2.2 (6 * n + 2)) n h H hn
  have g0 := g1_0
  have g63 := g1_63
  have k1 := call_keep gN_G1 c1
  have k2 := call_keep gN_G1 c2
  have e1 : h1 1001 = h 1001 := k1 1001 (by omega)
  have b0 := hS.1
  have b00 := hS.2.1
  have b1 : h1 1002 0 = (L : Int) := by rw [k1 1002 (by omega)]; exact b0
  have q := K h2 I (fun a ha => by rw [k2 a ha, k1 a ha])
  simp (disch := omega) only [X_211_276, X_211_277, X_211_278, X_211_279, X_211_280, X_211_281, X_211_282, X_211_283, X_211_284, X_211_285, X_211_286, X_211_287, X_211_290, X_211_291, X_211_292, X_211_293, X_211_294, X_211_295, X_211_296, X_211_297, X_211_298, X_211_299, X_211_300, X_211_301, X_211_304, X_211_304_f, X_211_304_t, X_211_307, X_211_308, X_211_1337, X_211_1340, natS, nA2, nA3, nA4, nA5, Int.toNat_natCast, c1, e1, c2, pushR_some, fixp_r, fixp_i, n66]
  exact q
set_option maxRecDepth 100000 in
theorem LC_3 {L n : Nat} {h : AH} {Q : Option AV → AG → AH → Prop} (H : INV n h) (hn : n < 512) (hS : SCR L h) (hL : 6 * n + 6 ≤ L) (K : NXT L n h Q) : wp 30 211 309 [some (.inr (.inr (some 1001))), some (.inr (.inr (some 0))), some (.inr (.inr (some 63))), some (.inl ((6 * n : Nat) : Int))] [] G1 h Q := by
  obtain ⟨r, h1, h2, hr, c1, c2, I⟩ := Op_tear (hS.2.2 (6 * n + 1)) n h H hn
  have g0 := g1_0
  have g63 := g1_63
  have k1 := call_keep gN_G1 c1
  have k2 := call_keep gN_G1 c2
  have e1 : h1 1001 = h 1001 := k1 1001 (by omega)
  have b0 := hS.1
  have b00 := hS.2.1
  have b1 : h1 1002 0 = (L : Int) := by rw [k1 1002 (by omega)]; exact b0
  have q := K h2 I (fun a ha => by rw [k2 a ha, k1 a ha])
  simp (disch := omega) only [X_211_309, X_211_310, X_211_311, X_211_312, X_211_313, X_211_314, X_211_315, X_211_318, X_211_319, X_211_320, X_211_321, X_211_322, X_211_323, X_211_324, X_211_327, X_211_327_f, X_211_327_t, X_211_330, X_211_331, X_211_1337, X_211_1340, natS, nA2, nA3, nA4, nA5, Int.toNat_natCast, c1, e1, c2, pushR_some, fixp_r, fixp_i, n66]
  exact q
set_option maxRecDepth 100000 in
theorem LC_4 {L n : Nat} {h : AH} {Q : Option AV → AG → AH → Prop} (H : INV n h) (hn : n < 512) (hS : SCR L h) (hL : 6 * n + 6 ≤ L) (K : NXT L n h Q) : wp 30 211 332 [some (.inr (.inr (some 1001))), some (.inr (.inr (some 0))), some (.inr (.inr (some 63))), some (.inl ((6 * n : Nat) : Int))] [] G1 h Q := by
  obtain ⟨r, h1, h2, hr, c1, c2, I⟩ := Op_copy (hS.2.2 (6 * n + 1)) (hS.2.2 (6 * n + 2)) (hS.2.2 (6 * n + 3)) (hS.2.2 (6 * n + 4)) (hS.2.2 (6 * n + 5)) n h H hn
  have g0 := g1_0
  have g63 := g1_63
  have k1 := call_keep gN_G1 c1
  have k2 := call_keep gN_G1 c2
  have e1 : h1 1001 = h 1001 := k1 1001 (by omega)
  have b0 := hS.1
  have b00 := hS.2.1
  have b1 : h1 1002 0 = (L : Int) := by rw [k1 1002 (by omega)]; exact b0
  have q := K h2 I (fun a ha => by rw [k2 a ha, k1 a ha])
  simp (disch := omega) only [X_211_332, X_211_333, X_211_334, X_211_335, X_211_336, X_211_337, X_211_338, X_211_339, X_211_340, X_211_341, X_211_342, X_211_343, X_211_344, X_211_345, X_211_346, X_211_347, X_211_348, X_211_349, X_211_350, X_211_351, X_211_352, X_211_353, X_211_354, X_211_355, X_211_356, X_211_357, X_211_358, X_211_361, X_211_362, X_211_363, X_211_364, X_211_365, X_211_366, X_211_367, X_211_368, X_211_369, X_211_370, X_211_371, X_211_372, X_211_373, X_211_374, X_211_375, X_211_376, X_211_377, X_211_378, X_211_379, X_211_380, X_211_381, X_211_382, X_211_383, X_211_384, X_211_385, X_211_386, X_211_387, X_211_390, X_211_390_f, X_211_390_t, X_211_393, X_211_394, X_211_1337, X_211_1340, natS, nA2, nA3, nA4, nA5, Int.toNat_natCast, c1, e1, c2, pushR_some, fixp_r, fixp_i, n66]
  exact q
set_option maxRecDepth 100000 in
theorem LC_5 {L n : Nat} {h : AH} {Q : Option AV → AG → AH → Prop} (H : INV n h) (hn : n < 512) (hS : SCR L h) (hL : 6 * n + 6 ≤ L) (K : NXT L n h Q) : wp 30 211 395 [some (.inr (.inr (some 1001))), some (.inr (.inr (some 0))), some (.inr (.inr (some 63))), some (.inl ((6 * n : Nat) : Int))] [] G1 h Q := by
  obtain ⟨r, h1, h2, hr, c1, c2, I⟩ := Op_mean (hS.2.2 (6 * n + 1)) n h H hn
  have g0 := g1_0
  have g63 := g1_63
  have k1 := call_keep gN_G1 c1
  have k2 := call_keep gN_G1 c2
  have e1 : h1 1001 = h 1001 := k1 1001 (by omega)
  have b0 := hS.1
  have b00 := hS.2.1
  have b1 : h1 1002 0 = (L : Int) := by rw [k1 1002 (by omega)]; exact b0
  have q := K h2 I (fun a ha => by rw [k2 a ha, k1 a ha])
  simp (disch := omega) only [X_211_395, X_211_396, X_211_397, X_211_398, X_211_399, X_211_400, X_211_401, X_211_404, X_211_405, X_211_406, X_211_407, X_211_408, X_211_409, X_211_410, X_211_413, X_211_413_f, X_211_413_t, X_211_416, X_211_417, X_211_1337, X_211_1340, natS, nA2, nA3, nA4, nA5, Int.toNat_natCast, c1, e1, c2, pushR_some, fixp_r, fixp_i, n66]
  exact q
set_option maxRecDepth 100000 in
theorem LC_6 {L n : Nat} {h : AH} {Q : Option AV → AG → AH → Prop} (H : INV n h) (hn : n < 512) (hS : SCR L h) (hL : 6 * n + 6 ≤ L) (K : NXT L n h Q) : wp 30 211 418 [some (.inr (.inr (some 1001))), some (.inr (.inr (some 0))), some (.inr (.inr (some 63))), some (.inl ((6 * n : Nat) : Int))] [] G1 h Q := by
  obtain ⟨r, h1, h2, hr, c1, c2, I⟩ := Op_text (hS.2.2 (6 * n + 1)) (hS.2.2 (6 * n + 2)) n h H hn
  have g0 := g1_0
  have g63 := g1_63
  have k1 := call_keep gN_G1 c1
  have k2 := call_keep gN_G1 c2
  have e1 : h1 1001 = h 1001 := k1 1001 (by omega)
  have b0 := hS.1
  have b00 := hS.2.1
  have b1 : h1 1002 0 = (L : Int) := by rw [k1 1002 (by omega)]; exact b0
  have q := K h2 I (fun a ha => by rw [k2 a ha, k1 a ha])
  simp (disch := omega) only [X_211_418, X_211_419, X_211_420, X_211_421, X_211_422, X_211_423, X_211_424, X_211_425, X_211_426, X_211_427, X_211_428, X_211_429, X_211_432, X_211_433, X_211_434, X_211_435, X_211_436, X_211_437, X_211_438, X_211_439, X_211_440, X_211_441, X_211_442, X_211_443, X_211_446, X_211_446_f, X_211_446_t, X_211_449, X_211_450, X_211_1337, X_211_1340, natS, nA2, nA3, nA4, nA5, Int.toNat_natCast, c1, e1, c2, pushR_some, fixp_r, fixp_i, n66]
  exact q
set_option maxRecDepth 100000 in
theorem LC_7 {L n : Nat} {h : AH} {Q : Option AV → AG → AH → Prop} (H : INV n h) (hn : n < 512) (hS : SCR L h) (hL : 6 * n + 6 ≤ L) (K : NXT L n h Q) : wp 30 211 451 [some (.inr (.inr (some 1001))), some (.inr (.inr (some 0))), some (.inr (.inr (some 63))), some (.inl ((6 * n : Nat) : Int))] [] G1 h Q := by
  obtain ⟨r, h1, h2, hr, c1, c2, I⟩ := Op_put (hS.2.2 (6 * n + 1)) (hS.2.2 (6 * n + 2)) (hS.2.2 (6 * n + 3)) n h H hn
  have g0 := g1_0
  have g63 := g1_63
  have k1 := call_keep gN_G1 c1
  have k2 := call_keep gN_G1 c2
  have e1 : h1 1001 = h 1001 := k1 1001 (by omega)
  have b0 := hS.1
  have b00 := hS.2.1
  have b1 : h1 1002 0 = (L : Int) := by rw [k1 1002 (by omega)]; exact b0
  have q := K h2 I (fun a ha => by rw [k2 a ha, k1 a ha])
  simp (disch := omega) only [X_211_451, X_211_452, X_211_453, X_211_454, X_211_455, X_211_456, X_211_457, X_211_458, X_211_459, X_211_460, X_211_461, X_211_462, X_211_463, X_211_464, X_211_465, X_211_466, X_211_467, X_211_470, X_211_471, X_211_472, X_211_473, X_211_474, X_211_475, X_211_476, X_211_477, X_211_478, X_211_479, X_211_480, X_211_481, X_211_482, X_211_483, X_211_484, X_211_485, X_211_486, X_211_489, X_211_489_f, X_211_489_t, X_211_492, X_211_493, X_211_1337, X_211_1340, natS, nA2, nA3, nA4, nA5, Int.toNat_natCast, c1, e1, c2, pushR_some, fixp_r, fixp_i, n66]
  exact q
set_option maxRecDepth 100000 in
theorem LC_8 {L n : Nat} {h : AH} {Q : Option AV → AG → AH → Prop} (H : INV n h) (hn : n < 512) (hS : SCR L h) (hL : 6 * n + 6 ≤ L) (K : NXT L n h Q) : wp 30 211 494 [some (.inr (.inr (some 1001))), some (.inr (.inr (some 0))), some (.inr (.inr (some 63))), some (.inl ((6 * n : Nat) : Int))] [] G1 h Q := by
  obtain ⟨r, h1, h2, hr, c1, c2, I⟩ := Op_fault (hS.2.2 (6 * n + 1)) n h H hn
  have g0 := g1_0
  have g63 := g1_63
  have k1 := call_keep gN_G1 c1
  have k2 := call_keep gN_G1 c2
  have e1 : h1 1001 = h 1001 := k1 1001 (by omega)
  have b0 := hS.1
  have b00 := hS.2.1
  have b1 : h1 1002 0 = (L : Int) := by rw [k1 1002 (by omega)]; exact b0
  have q := K h2 I (fun a ha => by rw [k2 a ha, k1 a ha])
  simp (disch := omega) only [X_211_494, X_211_495, X_211_496, X_211_497, X_211_498, X_211_499, X_211_500, X_211_503, X_211_504, X_211_505, X_211_506, X_211_507, X_211_508, X_211_509, X_211_512, X_211_512_f, X_211_512_t, X_211_515, X_211_516, X_211_1337, X_211_1340, natS, nA2, nA3, nA4, nA5, Int.toNat_natCast, c1, e1, c2, pushR_some, fixp_r, fixp_i, n66]
  exact q
set_option maxRecDepth 100000 in
theorem LC_9 {L n : Nat} {h : AH} {Q : Option AV → AG → AH → Prop} (H : INV n h) (hn : n < 512) (hS : SCR L h) (hL : 6 * n + 6 ≤ L) (K : NXT L n h Q) : wp 30 211 517 [some (.inr (.inr (some 1001))), some (.inr (.inr (some 0))), some (.inr (.inr (some 63))), some (.inl ((6 * n : Nat) : Int))] [] G1 h Q := by
  obtain ⟨r, h1, h2, hr, c1, c2, I⟩ := Op_toy (hS.2.2 (6 * n + 1)) n h H hn
  have g0 := g1_0
  have g63 := g1_63
  have k1 := call_keep gN_G1 c1
  have k2 := call_keep gN_G1 c2
  have e1 : h1 1001 = h 1001 := k1 1001 (by omega)
  have b0 := hS.1
  have b00 := hS.2.1
  have b1 : h1 1002 0 = (L : Int) := by rw [k1 1002 (by omega)]; exact b0
  have q := K h2 I (fun a ha => by rw [k2 a ha, k1 a ha])
  simp (disch := omega) only [X_211_517, X_211_518, X_211_519, X_211_520, X_211_521, X_211_522, X_211_523, X_211_526, X_211_527, X_211_528, X_211_529, X_211_530, X_211_531, X_211_532, X_211_535, X_211_535_f, X_211_535_t, X_211_538, X_211_539, X_211_1337, X_211_1340, natS, nA2, nA3, nA4, nA5, Int.toNat_natCast, c1, e1, c2, pushR_some, fixp_r, fixp_i, n66]
  exact q
set_option maxRecDepth 100000 in
theorem LC_10 {L n : Nat} {h : AH} {Q : Option AV → AG → AH → Prop} (H : INV n h) (hn : n < 512) (hS : SCR L h) (hL : 6 * n + 6 ≤ L) (K : NXT L n h Q) : wp 30 211 540 [some (.inr (.inr (some 1001))), some (.inr (.inr (some 0))), some (.inr (.inr (some 63))), some (.inl ((6 * n : Nat) : Int))] [] G1 h Q := by
  obtain ⟨r, h1, h2, hr, c1, c2, I⟩ := Op_bead (hS.2.2 (6 * n + 1)) (hS.2.2 (6 * n + 2)) n h H hn
  have g0 := g1_0
  have g63 := g1_63
  have k1 := call_keep gN_G1 c1
  have k2 := call_keep gN_G1 c2
  have e1 : h1 1001 = h 1001 := k1 1001 (by omega)
  have b0 := hS.1
  have b00 := hS.2.1
  have b1 : h1 1002 0 = (L : Int) := by rw [k1 1002 (by omega)]; exact b0
  have q := K h2 I (fun a ha => by rw [k2 a ha, k1 a ha])
  simp (disch := omega) only [X_211_540, X_211_541, X_211_542, X_211_543, X_211_544, X_211_545, X_211_546, X_211_547, X_211_548, X_211_549, X_211_550, X_211_551, X_211_554, X_211_555, X_211_556, X_211_557, X_211_558, X_211_559, X_211_560, X_211_561, X_211_562, X_211_563, X_211_564, X_211_565, X_211_568, X_211_568_f, X_211_568_t, X_211_571, X_211_572, X_211_1337, X_211_1340, natS, nA2, nA3, nA4, nA5, Int.toNat_natCast, c1, e1, c2, pushR_some, fixp_r, fixp_i, n66]
  exact q
set_option maxRecDepth 100000 in
theorem LC_11 {L n : Nat} {h : AH} {Q : Option AV → AG → AH → Prop} (H : INV n h) (hn : n < 512) (hS : SCR L h) (hL : 6 * n + 6 ≤ L) (K : NXT L n h Q) : wp 30 211 573 [some (.inr (.inr (some 1001))), some (.inr (.inr (some 0))), some (.inr (.inr (some 63))), some (.inl ((6 * n : Nat) : Int))] [] G1 h Q := by
  obtain ⟨r, h1, h2, hr, c1, c2, I⟩ := Op_cell (hS.2.2 (6 * n + 1)) (hS.2.2 (6 * n + 2)) n h H hn
  have g0 := g1_0
  have g63 := g1_63
  have k1 := call_keep gN_G1 c1
  have k2 := call_keep gN_G1 c2
  have e1 : h1 1001 = h 1001 := k1 1001 (by omega)
  have b0 := hS.1
  have b00 := hS.2.1
  have b1 : h1 1002 0 = (L : Int) := by rw [k1 1002 (by omega)]; exact b0
  have q := K h2 I (fun a ha => by rw [k2 a ha, k1 a ha])
  simp (disch := omega) only [X_211_573, X_211_574, X_211_575, X_211_576, X_211_577, X_211_578, X_211_579, X_211_580, X_211_581, X_211_582, X_211_583, X_211_584, X_211_587, X_211_588, X_211_589, X_211_590, X_211_591, X_211_592, X_211_593, X_211_594, X_211_595, X_211_596, X_211_597, X_211_598, X_211_601, X_211_601_f, X_211_601_t, X_211_604, X_211_605, X_211_1337, X_211_1340, natS, nA2, nA3, nA4, nA5, Int.toNat_natCast, c1, e1, c2, pushR_some, fixp_r, fixp_i, n66]
  exact q
set_option maxRecDepth 100000 in
theorem LC_12 {L n : Nat} {h : AH} {Q : Option AV → AG → AH → Prop} (H : INV n h) (hn : n < 512) (hS : SCR L h) (hL : 6 * n + 6 ≤ L) (K : NXT L n h Q) : wp 30 211 606 [some (.inr (.inr (some 1001))), some (.inr (.inr (some 0))), some (.inr (.inr (some 63))), some (.inl ((6 * n : Nat) : Int))] [] G1 h Q := by
  obtain ⟨r, h1, h2, hr, c1, c2, I⟩ := Op_mark (hS.2.2 (6 * n + 1)) (hS.2.2 (6 * n + 2)) n h H hn
  have g0 := g1_0
  have g63 := g1_63
  have k1 := call_keep gN_G1 c1
  have k2 := call_keep gN_G1 c2
  have e1 : h1 1001 = h 1001 := k1 1001 (by omega)
  have b0 := hS.1
  have b00 := hS.2.1
  have b1 : h1 1002 0 = (L : Int) := by rw [k1 1002 (by omega)]; exact b0
  have q := K h2 I (fun a ha => by rw [k2 a ha, k1 a ha])
  simp (disch := omega) only [X_211_606, X_211_607, X_211_608, X_211_609, X_211_610, X_211_611, X_211_612, X_211_613, X_211_614, X_211_615, X_211_616, X_211_617, X_211_620, X_211_621, X_211_622, X_211_623, X_211_624, X_211_625, X_211_626, X_211_627, X_211_628, X_211_629, X_211_630, X_211_631, X_211_634, X_211_634_f, X_211_634_t, X_211_637, X_211_638, X_211_1337, X_211_1340, natS, nA2, nA3, nA4, nA5, Int.toNat_natCast, c1, e1, c2, pushR_some, fixp_r, fixp_i, n66]
  exact q
set_option maxRecDepth 100000 in
theorem LC_13 {L n : Nat} {h : AH} {Q : Option AV → AG → AH → Prop} (H : INV n h) (hn : n < 512) (hS : SCR L h) (hL : 6 * n + 6 ≤ L) (K : NXT L n h Q) : wp 30 211 639 [some (.inr (.inr (some 1001))), some (.inr (.inr (some 0))), some (.inr (.inr (some 63))), some (.inl ((6 * n : Nat) : Int))] [] G1 h Q := by
  obtain ⟨r, h1, h2, hr, c1, c2, I⟩ := Op_turn (hS.2.2 (6 * n + 1)) n h H hn
  have g0 := g1_0
  have g63 := g1_63
  have k1 := call_keep gN_G1 c1
  have k2 := call_keep gN_G1 c2
  have e1 : h1 1001 = h 1001 := k1 1001 (by omega)
  have b0 := hS.1
  have b00 := hS.2.1
  have b1 : h1 1002 0 = (L : Int) := by rw [k1 1002 (by omega)]; exact b0
  have q := K h2 I (fun a ha => by rw [k2 a ha, k1 a ha])
  simp (disch := omega) only [X_211_639, X_211_640, X_211_641, X_211_642, X_211_643, X_211_644, X_211_645, X_211_648, X_211_649, X_211_650, X_211_651, X_211_652, X_211_653, X_211_654, X_211_657, X_211_657_f, X_211_657_t, X_211_660, X_211_661, X_211_1337, X_211_1340, natS, nA2, nA3, nA4, nA5, Int.toNat_natCast, c1, e1, c2, pushR_some, fixp_r, fixp_i, n66]
  exact q
set_option maxRecDepth 100000 in
theorem LC_14 {L n : Nat} {h : AH} {Q : Option AV → AG → AH → Prop} (H : INV n h) (hn : n < 512) (hS : SCR L h) (hL : 6 * n + 6 ≤ L) (K : NXT L n h Q) : wp 30 211 662 [some (.inr (.inr (some 1001))), some (.inr (.inr (some 0))), some (.inr (.inr (some 63))), some (.inl ((6 * n : Nat) : Int))] [] G1 h Q := by
  obtain ⟨r, h1, h2, hr, c1, c2, I⟩ := Op_exchange (hS.2.2 (6 * n + 1)) (hS.2.2 (6 * n + 2)) n h H hn
  have g0 := g1_0
  have g63 := g1_63
  have k1 := call_keep gN_G1 c1
  have k2 := call_keep gN_G1 c2
  have e1 : h1 1001 = h 1001 := k1 1001 (by omega)
  have b0 := hS.1
  have b00 := hS.2.1
  have b1 : h1 1002 0 = (L : Int) := by rw [k1 1002 (by omega)]; exact b0
  have q := K h2 I (fun a ha => by rw [k2 a ha, k1 a ha])
  simp (disch := omega) only [X_211_662, X_211_663, X_211_664, X_211_665, X_211_666, X_211_667, X_211_668, X_211_669, X_211_670, X_211_671, X_211_672, X_211_673, X_211_676, X_211_677, X_211_678, X_211_679, X_211_680, X_211_681, X_211_682, X_211_683, X_211_684, X_211_685, X_211_686, X_211_687, X_211_690, X_211_690_f, X_211_690_t, X_211_693, X_211_694, X_211_1337, X_211_1340, natS, nA2, nA3, nA4, nA5, Int.toNat_natCast, c1, e1, c2, pushR_some, fixp_r, fixp_i, n66]
  exact q
set_option maxRecDepth 100000 in
theorem LC_15 {L n : Nat} {h : AH} {Q : Option AV → AG → AH → Prop} (H : INV n h) (hn : n < 512) (hS : SCR L h) (hL : 6 * n + 6 ≤ L) (K : NXT L n h Q) : wp 30 211 695 [some (.inr (.inr (some 1001))), some (.inr (.inr (some 0))), some (.inr (.inr (some 63))), some (.inl ((6 * n : Nat) : Int))] [] G1 h Q := by
  obtain ⟨r, h1, h2, hr, c1, c2, I⟩ := Op_undo (hS.2.2 (6 * n + 1)) n h H hn
  have g0 := g1_0
  have g63 := g1_63
  have k1 := call_keep gN_G1 c1
  have k2 := call_keep gN_G1 c2
  have e1 : h1 1001 = h 1001 := k1 1001 (by omega)
  have b0 := hS.1
  have b00 := hS.2.1
  have b1 : h1 1002 0 = (L : Int) := by rw [k1 1002 (by omega)]; exact b0
  have q := K h2 I (fun a ha => by rw [k2 a ha, k1 a ha])
  simp (disch := omega) only [X_211_695, X_211_696, X_211_697, X_211_698, X_211_699, X_211_700, X_211_701, X_211_704, X_211_705, X_211_706, X_211_707, X_211_708, X_211_709, X_211_710, X_211_713, X_211_713_f, X_211_713_t, X_211_716, X_211_717, X_211_1337, X_211_1340, natS, nA2, nA3, nA4, nA5, Int.toNat_natCast, c1, e1, c2, pushR_some, fixp_r, fixp_i, n66]
  exact q
set_option maxRecDepth 100000 in
theorem LC_16 {L n : Nat} {h : AH} {Q : Option AV → AG → AH → Prop} (H : INV n h) (hn : n < 512) (hS : SCR L h) (hL : 6 * n + 6 ≤ L) (K : NXT L n h Q) : wp 30 211 718 [some (.inr (.inr (some 1001))), some (.inr (.inr (some 0))), some (.inr (.inr (some 63))), some (.inl ((6 * n : Nat) : Int))] [] G1 h Q := by
  obtain ⟨r, h1, h2, hr, c1, c2, I⟩ := Op_keep (hS.2.2 (6 * n + 1)) n h H hn
  have g0 := g1_0
  have g63 := g1_63
  have k1 := call_keep gN_G1 c1
  have k2 := call_keep gN_G1 c2
  have e1 : h1 1001 = h 1001 := k1 1001 (by omega)
  have b0 := hS.1
  have b00 := hS.2.1
  have b1 : h1 1002 0 = (L : Int) := by rw [k1 1002 (by omega)]; exact b0
  have q := K h2 I (fun a ha => by rw [k2 a ha, k1 a ha])
  simp (disch := omega) only [X_211_718, X_211_719, X_211_720, X_211_721, X_211_722, X_211_723, X_211_724, X_211_727, X_211_728, X_211_729, X_211_730, X_211_731, X_211_732, X_211_733, X_211_736, X_211_736_f, X_211_736_t, X_211_739, X_211_740, X_211_1337, X_211_1340, natS, nA2, nA3, nA4, nA5, Int.toNat_natCast, c1, e1, c2, pushR_some, fixp_r, fixp_i, n66]
  exact q
set_option maxRecDepth 100000 in
theorem LC_17 {L n : Nat} {h : AH} {Q : Option AV → AG → AH → Prop} (H : INV n h) (hn : n < 512) (hS : SCR L h) (hL : 6 * n + 6 ≤ L) (K : NXT L n h Q) : wp 30 211 741 [some (.inr (.inr (some 1001))), some (.inr (.inr (some 0))), some (.inr (.inr (some 63))), some (.inl ((6 * n : Nat) : Int))] [] G1 h Q := by
  obtain ⟨r, h1, h2, hr, c1, c2, I⟩ := Op_on (hS.2.2 (6 * n + 1)) n h H hn
  have g0 := g1_0
  have g63 := g1_63
  have k1 := call_keep gN_G1 c1
  have k2 := call_keep gN_G1 c2
  have e1 : h1 1001 = h 1001 := k1 1001 (by omega)
  have b0 := hS.1
  have b00 := hS.2.1
  have b1 : h1 1002 0 = (L : Int) := by rw [k1 1002 (by omega)]; exact b0
  have q := K h2 I (fun a ha => by rw [k2 a ha, k1 a ha])
  simp (disch := omega) only [X_211_741, X_211_742, X_211_743, X_211_744, X_211_745, X_211_746, X_211_747, X_211_750, X_211_751, X_211_752, X_211_753, X_211_754, X_211_755, X_211_756, X_211_759, X_211_759_f, X_211_759_t, X_211_762, X_211_763, X_211_1337, X_211_1340, natS, nA2, nA3, nA4, nA5, Int.toNat_natCast, c1, e1, c2, pushR_some, fixp_r, fixp_i, n66]
  exact q
set_option maxRecDepth 100000 in
theorem LC_18 {L n : Nat} {h : AH} {Q : Option AV → AG → AH → Prop} (H : INV n h) (hn : n < 512) (hS : SCR L h) (hL : 6 * n + 6 ≤ L) (K : NXT L n h Q) : wp 30 211 764 [some (.inr (.inr (some 1001))), some (.inr (.inr (some 0))), some (.inr (.inr (some 63))), some (.inl ((6 * n : Nat) : Int))] [] G1 h Q := by
  obtain ⟨r, h1, h2, hr, c1, c2, I⟩ := Op_shows (hS.2.2 (6 * n + 1)) (hS.2.2 (6 * n + 2)) (hS.2.2 (6 * n + 3)) (hS.2.2 (6 * n + 4)) n h H hn
  have g0 := g1_0
  have g63 := g1_63
  have k1 := call_keep gN_G1 c1
  have k2 := call_keep gN_G1 c2
  have e1 : h1 1001 = h 1001 := k1 1001 (by omega)
  have b0 := hS.1
  have b00 := hS.2.1
  have b1 : h1 1002 0 = (L : Int) := by rw [k1 1002 (by omega)]; exact b0
  have q := K h2 I (fun a ha => by rw [k2 a ha, k1 a ha])
  simp (disch := omega) only [X_211_764, X_211_765, X_211_766, X_211_767, X_211_768, X_211_769, X_211_770, X_211_771, X_211_772, X_211_773, X_211_774, X_211_775, X_211_776, X_211_777, X_211_778, X_211_779, X_211_780, X_211_781, X_211_782, X_211_783, X_211_784, X_211_785, X_211_788, X_211_789, X_211_790, X_211_791, X_211_792, X_211_793, X_211_794, X_211_795, X_211_796, X_211_797, X_211_798, X_211_799, X_211_800, X_211_801, X_211_802, X_211_803, X_211_804, X_211_805, X_211_806, X_211_807, X_211_808, X_211_809, X_211_812, X_211_812_f, X_211_812_t, X_211_815, X_211_816, X_211_1337, X_211_1340, natS, nA2, nA3, nA4, nA5, Int.toNat_natCast, c1, e1, c2, pushR_some, fixp_r, fixp_i, n66]
  exact q
set_option maxRecDepth 100000 in
theorem LC_19 {L n : Nat} {h : AH} {Q : Option AV → AG → AH → Prop} (H : INV n h) (hn : n < 512) (hS : SCR L h) (hL : 6 * n + 6 ≤ L) (K : NXT L n h Q) : wp 30 211 817 [some (.inr (.inr (some 1001))), some (.inr (.inr (some 0))), some (.inr (.inr (some 63))), some (.inl ((6 * n : Nat) : Int))] [] G1 h Q := by
  obtain ⟨r, h1, h2, hr, c1, c2, I⟩ := Op_run (hS.2.2 (6 * n + 1)) (hS.2.2 (6 * n + 2)) n h H hn
  have g0 := g1_0
  have g63 := g1_63
  have k1 := call_keep gN_G1 c1
  have k2 := call_keep gN_G1 c2
  have e1 : h1 1001 = h 1001 := k1 1001 (by omega)
  have b0 := hS.1
  have b00 := hS.2.1
  have b1 : h1 1002 0 = (L : Int) := by rw [k1 1002 (by omega)]; exact b0
  have q := K h2 I (fun a ha => by rw [k2 a ha, k1 a ha])
  simp (disch := omega) only [X_211_817, X_211_818, X_211_819, X_211_820, X_211_821, X_211_822, X_211_823, X_211_824, X_211_825, X_211_826, X_211_827, X_211_828, X_211_831, X_211_832, X_211_833, X_211_834, X_211_835, X_211_836, X_211_837, X_211_838, X_211_839, X_211_840, X_211_841, X_211_842, X_211_845, X_211_845_f, X_211_845_t, X_211_848, X_211_849, X_211_1337, X_211_1340, natS, nA2, nA3, nA4, nA5, Int.toNat_natCast, c1, e1, c2, pushR_some, fixp_r, fixp_i, n66]
  exact q
set_option maxRecDepth 100000 in
theorem LC_20 {L n : Nat} {h : AH} {Q : Option AV → AG → AH → Prop} (H : INV n h) (hn : n < 512) (hS : SCR L h) (hL : 6 * n + 6 ≤ L) (K : NXT L n h Q) : wp 30 211 850 [some (.inr (.inr (some 1001))), some (.inr (.inr (some 0))), some (.inr (.inr (some 63))), some (.inl ((6 * n : Nat) : Int))] [] G1 h Q := by
  obtain ⟨r, h1, h2, hr, c1, c2, I⟩ := Op_rounds (hS.2.2 (6 * n + 1)) n h H hn
  have g0 := g1_0
  have g63 := g1_63
  have k1 := call_keep gN_G1 c1
  have k2 := call_keep gN_G1 c2
  have e1 : h1 1001 = h 1001 := k1 1001 (by omega)
  have b0 := hS.1
  have b00 := hS.2.1
  have b1 : h1 1002 0 = (L : Int) := by rw [k1 1002 (by omega)]; exact b0
  have q := K h2 I (fun a ha => by rw [k2 a ha, k1 a ha])
  simp (disch := omega) only [X_211_850, X_211_851, X_211_852, X_211_853, X_211_854, X_211_855, X_211_856, X_211_859, X_211_860, X_211_861, X_211_862, X_211_863, X_211_864, X_211_865, X_211_868, X_211_868_f, X_211_868_t, X_211_871, X_211_872, X_211_1337, X_211_1340, natS, nA2, nA3, nA4, nA5, Int.toNat_natCast, c1, e1, c2, pushR_some, fixp_r, fixp_i, n66]
  exact q
set_option maxRecDepth 100000 in
theorem LC_21 {L n : Nat} {h : AH} {Q : Option AV → AG → AH → Prop} (H : INV n h) (hn : n < 512) (hS : SCR L h) (hL : 6 * n + 6 ≤ L) (K : NXT L n h Q) : wp 30 211 873 [some (.inr (.inr (some 1001))), some (.inr (.inr (some 0))), some (.inr (.inr (some 63))), some (.inl ((6 * n : Nat) : Int))] [] G1 h Q := by
  obtain ⟨r, h1, h2, hr, c1, c2, I⟩ := Op_fewest (hS.2.2 (6 * n + 1)) (hS.2.2 (6 * n + 2)) (hS.2.2 (6 * n + 3)) n h H hn
  have g0 := g1_0
  have g63 := g1_63
  have k1 := call_keep gN_G1 c1
  have k2 := call_keep gN_G1 c2
  have e1 : h1 1001 = h 1001 := k1 1001 (by omega)
  have b0 := hS.1
  have b00 := hS.2.1
  have b1 : h1 1002 0 = (L : Int) := by rw [k1 1002 (by omega)]; exact b0
  have q := K h2 I (fun a ha => by rw [k2 a ha, k1 a ha])
  simp (disch := omega) only [X_211_873, X_211_874, X_211_875, X_211_876, X_211_877, X_211_878, X_211_879, X_211_880, X_211_881, X_211_882, X_211_883, X_211_884, X_211_885, X_211_886, X_211_887, X_211_888, X_211_889, X_211_892, X_211_893, X_211_894, X_211_895, X_211_896, X_211_897, X_211_898, X_211_899, X_211_900, X_211_901, X_211_902, X_211_903, X_211_904, X_211_905, X_211_906, X_211_907, X_211_908, X_211_911, X_211_911_f, X_211_911_t, X_211_914, X_211_915, X_211_1337, X_211_1340, natS, nA2, nA3, nA4, nA5, Int.toNat_natCast, c1, e1, c2, pushR_some, fixp_r, fixp_i, n66]
  exact q
set_option maxRecDepth 100000 in
theorem LC_22 {L n : Nat} {h : AH} {Q : Option AV → AG → AH → Prop} (H : INV n h) (hn : n < 512) (hS : SCR L h) (hL : 6 * n + 6 ≤ L) (K : NXT L n h Q) : wp 30 211 916 [some (.inr (.inr (some 1001))), some (.inr (.inr (some 0))), some (.inr (.inr (some 63))), some (.inl ((6 * n : Nat) : Int))] [] G1 h Q := by
  obtain ⟨r, h1, h2, hr, c1, c2, I⟩ := Op_picture (hS.2.2 (6 * n + 1)) (hS.2.2 (6 * n + 2)) n h H hn
  have g0 := g1_0
  have g63 := g1_63
  have k1 := call_keep gN_G1 c1
  have k2 := call_keep gN_G1 c2
  have e1 : h1 1001 = h 1001 := k1 1001 (by omega)
  have b0 := hS.1
  have b00 := hS.2.1
  have b1 : h1 1002 0 = (L : Int) := by rw [k1 1002 (by omega)]; exact b0
  have q := K h2 I (fun a ha => by rw [k2 a ha, k1 a ha])
  simp (disch := omega) only [X_211_916, X_211_917, X_211_918, X_211_919, X_211_920, X_211_921, X_211_922, X_211_923, X_211_924, X_211_925, X_211_926, X_211_927, X_211_930, X_211_931, X_211_932, X_211_933, X_211_934, X_211_935, X_211_936, X_211_937, X_211_938, X_211_939, X_211_940, X_211_941, X_211_944, X_211_944_f, X_211_944_t, X_211_947, X_211_948, X_211_1337, X_211_1340, natS, nA2, nA3, nA4, nA5, Int.toNat_natCast, c1, e1, c2, pushR_some, fixp_r, fixp_i, n66]
  exact q
set_option maxRecDepth 100000 in
theorem LC_23 {L n : Nat} {h : AH} {Q : Option AV → AG → AH → Prop} (H : INV n h) (hn : n < 512) (hS : SCR L h) (hL : 6 * n + 6 ≤ L) (K : NXT L n h Q) : wp 30 211 949 [some (.inr (.inr (some 1001))), some (.inr (.inr (some 0))), some (.inr (.inr (some 63))), some (.inl ((6 * n : Nat) : Int))] [] G1 h Q := by
  obtain ⟨r, h1, h2, hr, c1, c2, I⟩ := Op_which (hS.2.2 (6 * n + 1)) n h H hn
  have g0 := g1_0
  have g63 := g1_63
  have k1 := call_keep gN_G1 c1
  have k2 := call_keep gN_G1 c2
  have e1 : h1 1001 = h 1001 := k1 1001 (by omega)
  have b0 := hS.1
  have b00 := hS.2.1
  have b1 : h1 1002 0 = (L : Int) := by rw [k1 1002 (by omega)]; exact b0
  have q := K h2 I (fun a ha => by rw [k2 a ha, k1 a ha])
  simp (disch := omega) only [X_211_949, X_211_950, X_211_951, X_211_952, X_211_953, X_211_954, X_211_955, X_211_958, X_211_959, X_211_960, X_211_961, X_211_962, X_211_963, X_211_964, X_211_967, X_211_967_f, X_211_967_t, X_211_970, X_211_971, X_211_1337, X_211_1340, natS, nA2, nA3, nA4, nA5, Int.toNat_natCast, c1, e1, c2, pushR_some, fixp_r, fixp_i, n66]
  exact q
set_option maxRecDepth 100000 in
theorem LC_24 {L n : Nat} {h : AH} {Q : Option AV → AG → AH → Prop} (H : INV n h) (hn : n < 512) (hS : SCR L h) (hL : 6 * n + 6 ≤ L) (K : NXT L n h Q) : wp 30 211 972 [some (.inr (.inr (some 1001))), some (.inr (.inr (some 0))), some (.inr (.inr (some 63))), some (.inl ((6 * n : Nat) : Int))] [] G1 h Q := by
  obtain ⟨r, h1, h2, hr, c1, c2, I⟩ := Op_kinds (hS.2.2 (6 * n + 1)) (hS.2.2 (6 * n + 2)) n h H hn
  have g0 := g1_0
  have g63 := g1_63
  have k1 := call_keep gN_G1 c1
  have k2 := call_keep gN_G1 c2
  have e1 : h1 1001 = h 1001 := k1 1001 (by omega)
  have b0 := hS.1
  have b00 := hS.2.1
  have b1 : h1 1002 0 = (L : Int) := by rw [k1 1002 (by omega)]; exact b0
  have q := K h2 I (fun a ha => by rw [k2 a ha, k1 a ha])
  simp (disch := omega) only [X_211_972, X_211_973, X_211_974, X_211_975, X_211_976, X_211_977, X_211_978, X_211_979, X_211_980, X_211_981, X_211_982, X_211_983, X_211_986, X_211_987, X_211_988, X_211_989, X_211_990, X_211_991, X_211_992, X_211_993, X_211_994, X_211_995, X_211_996, X_211_997, X_211_1000, X_211_1000_f, X_211_1000_t, X_211_1003, X_211_1004, X_211_1337, X_211_1340, natS, nA2, nA3, nA4, nA5, Int.toNat_natCast, c1, e1, c2, pushR_some, fixp_r, fixp_i, n66]
  exact q
set_option maxRecDepth 100000 in
theorem LC_25 {L n : Nat} {h : AH} {Q : Option AV → AG → AH → Prop} (H : INV n h) (hn : n < 512) (hS : SCR L h) (hL : 6 * n + 6 ≤ L) (K : NXT L n h Q) : wp 30 211 1005 [some (.inr (.inr (some 1001))), some (.inr (.inr (some 0))), some (.inr (.inr (some 63))), some (.inl ((6 * n : Nat) : Int))] [] G1 h Q := by
  obtain ⟨r, h1, h2, hr, c1, c2, I⟩ := Op_colours (hS.2.2 (6 * n + 1)) (hS.2.2 (6 * n + 2)) n h H hn
  have g0 := g1_0
  have g63 := g1_63
  have k1 := call_keep gN_G1 c1
  have k2 := call_keep gN_G1 c2
  have e1 : h1 1001 = h 1001 := k1 1001 (by omega)
  have b0 := hS.1
  have b00 := hS.2.1
  have b1 : h1 1002 0 = (L : Int) := by rw [k1 1002 (by omega)]; exact b0
  have q := K h2 I (fun a ha => by rw [k2 a ha, k1 a ha])
  simp (disch := omega) only [X_211_1005, X_211_1006, X_211_1007, X_211_1008, X_211_1009, X_211_1010, X_211_1011, X_211_1012, X_211_1013, X_211_1014, X_211_1015, X_211_1016, X_211_1019, X_211_1020, X_211_1021, X_211_1022, X_211_1023, X_211_1024, X_211_1025, X_211_1026, X_211_1027, X_211_1028, X_211_1029, X_211_1030, X_211_1033, X_211_1033_f, X_211_1033_t, X_211_1036, X_211_1037, X_211_1337, X_211_1340, natS, nA2, nA3, nA4, nA5, Int.toNat_natCast, c1, e1, c2, pushR_some, fixp_r, fixp_i, n66]
  exact q
set_option maxRecDepth 100000 in
theorem LC_26 {L n : Nat} {h : AH} {Q : Option AV → AG → AH → Prop} (H : INV n h) (hn : n < 512) (hS : SCR L h) (hL : 6 * n + 6 ≤ L) (K : NXT L n h Q) : wp 30 211 1038 [some (.inr (.inr (some 1001))), some (.inr (.inr (some 0))), some (.inr (.inr (some 63))), some (.inl ((6 * n : Nat) : Int))] [] G1 h Q := by
  obtain ⟨r, h1, h2, hr, c1, c2, I⟩ := Op_next (hS.2.2 (6 * n + 1)) (hS.2.2 (6 * n + 2)) n h H hn
  have g0 := g1_0
  have g63 := g1_63
  have k1 := call_keep gN_G1 c1
  have k2 := call_keep gN_G1 c2
  have e1 : h1 1001 = h 1001 := k1 1001 (by omega)
  have b0 := hS.1
  have b00 := hS.2.1
  have b1 : h1 1002 0 = (L : Int) := by rw [k1 1002 (by omega)]; exact b0
  have q := K h2 I (fun a ha => by rw [k2 a ha, k1 a ha])
  simp (disch := omega) only [X_211_1038, X_211_1039, X_211_1040, X_211_1041, X_211_1042, X_211_1043, X_211_1044, X_211_1045, X_211_1046, X_211_1047, X_211_1048, X_211_1049, X_211_1052, X_211_1053, X_211_1054, X_211_1055, X_211_1056, X_211_1057, X_211_1058, X_211_1059, X_211_1060, X_211_1061, X_211_1062, X_211_1063, X_211_1066, X_211_1066_f, X_211_1066_t, X_211_1069, X_211_1070, X_211_1337, X_211_1340, natS, nA2, nA3, nA4, nA5, Int.toNat_natCast, c1, e1, c2, pushR_some, fixp_r, fixp_i, n66]
  exact q
set_option maxRecDepth 100000 in
theorem LC_27 {L n : Nat} {h : AH} {Q : Option AV → AG → AH → Prop} (H : INV n h) (hn : n < 512) (hS : SCR L h) (hL : 6 * n + 6 ≤ L) (K : NXT L n h Q) : wp 30 211 1071 [some (.inr (.inr (some 1001))), some (.inr (.inr (some 0))), some (.inr (.inr (some 63))), some (.inl ((6 * n : Nat) : Int))] [] G1 h Q := by
  obtain ⟨r, h1, h2, hr, c1, c2, I⟩ := Op_duel (hS.2.2 (6 * n + 1)) n h H hn
  have g0 := g1_0
  have g63 := g1_63
  have k1 := call_keep gN_G1 c1
  have k2 := call_keep gN_G1 c2
  have e1 : h1 1001 = h 1001 := k1 1001 (by omega)
  have b0 := hS.1
  have b00 := hS.2.1
  have b1 : h1 1002 0 = (L : Int) := by rw [k1 1002 (by omega)]; exact b0
  have q := K h2 I (fun a ha => by rw [k2 a ha, k1 a ha])
  simp (disch := omega) only [X_211_1071, X_211_1072, X_211_1073, X_211_1074, X_211_1075, X_211_1076, X_211_1077, X_211_1080, X_211_1081, X_211_1082, X_211_1083, X_211_1084, X_211_1085, X_211_1086, X_211_1089, X_211_1089_f, X_211_1089_t, X_211_1092, X_211_1093, X_211_1337, X_211_1340, natS, nA2, nA3, nA4, nA5, Int.toNat_natCast, c1, e1, c2, pushR_some, fixp_r, fixp_i, n66]
  exact q
set_option maxRecDepth 100000 in
theorem LC_28 {L n : Nat} {h : AH} {Q : Option AV → AG → AH → Prop} (H : INV n h) (hn : n < 512) (hS : SCR L h) (hL : 6 * n + 6 ≤ L) (K : NXT L n h Q) : wp 30 211 1094 [some (.inr (.inr (some 1001))), some (.inr (.inr (some 0))), some (.inr (.inr (some 63))), some (.inl ((6 * n : Nat) : Int))] [] G1 h Q := by
  obtain ⟨r, h1, h2, hr, c1, c2, I⟩ := Op_odds (hS.2.2 (6 * n + 1)) (hS.2.2 (6 * n + 2)) (hS.2.2 (6 * n + 3)) (hS.2.2 (6 * n + 4)) n h H hn
  have g0 := g1_0
  have g63 := g1_63
  have k1 := call_keep gN_G1 c1
  have k2 := call_keep gN_G1 c2
  have e1 : h1 1001 = h 1001 := k1 1001 (by omega)
  have b0 := hS.1
  have b00 := hS.2.1
  have b1 : h1 1002 0 = (L : Int) := by rw [k1 1002 (by omega)]; exact b0
  have q := K h2 I (fun a ha => by rw [k2 a ha, k1 a ha])
  simp (disch := omega) only [X_211_1094, X_211_1095, X_211_1096, X_211_1097, X_211_1098, X_211_1099, X_211_1100, X_211_1101, X_211_1102, X_211_1103, X_211_1104, X_211_1105, X_211_1106, X_211_1107, X_211_1108, X_211_1109, X_211_1110, X_211_1111, X_211_1112, X_211_1113, X_211_1114, X_211_1115, X_211_1118, X_211_1119, X_211_1120, X_211_1121, X_211_1122, X_211_1123, X_211_1124, X_211_1125, X_211_1126, X_211_1127, X_211_1128, X_211_1129, X_211_1130, X_211_1131, X_211_1132, X_211_1133, X_211_1134, X_211_1135, X_211_1136, X_211_1137, X_211_1138, X_211_1139, X_211_1142, X_211_1142_f, X_211_1142_t, X_211_1145, X_211_1146, X_211_1337, X_211_1340, natS, nA2, nA3, nA4, nA5, Int.toNat_natCast, c1, e1, c2, pushR_some, fixp_r, fixp_i, n66]
  exact q
set_option maxRecDepth 100000 in
theorem LC_29 {L n : Nat} {h : AH} {Q : Option AV → AG → AH → Prop} (H : INV n h) (hn : n < 512) (hS : SCR L h) (hL : 6 * n + 6 ≤ L) (K : NXT L n h Q) : wp 30 211 1147 [some (.inr (.inr (some 1001))), some (.inr (.inr (some 0))), some (.inr (.inr (some 63))), some (.inl ((6 * n : Nat) : Int))] [] G1 h Q := by
  obtain ⟨r, h1, h2, hr, c1, c2, I⟩ := Op_mid (hS.2.2 (6 * n + 1)) (hS.2.2 (6 * n + 2)) (hS.2.2 (6 * n + 3)) n h H hn
  have g0 := g1_0
  have g63 := g1_63
  have k1 := call_keep gN_G1 c1
  have k2 := call_keep gN_G1 c2
  have e1 : h1 1001 = h 1001 := k1 1001 (by omega)
  have b0 := hS.1
  have b00 := hS.2.1
  have b1 : h1 1002 0 = (L : Int) := by rw [k1 1002 (by omega)]; exact b0
  have q := K h2 I (fun a ha => by rw [k2 a ha, k1 a ha])
  simp (disch := omega) only [X_211_1147, X_211_1148, X_211_1149, X_211_1150, X_211_1151, X_211_1152, X_211_1153, X_211_1154, X_211_1155, X_211_1156, X_211_1157, X_211_1158, X_211_1159, X_211_1160, X_211_1161, X_211_1162, X_211_1163, X_211_1166, X_211_1167, X_211_1168, X_211_1169, X_211_1170, X_211_1171, X_211_1172, X_211_1173, X_211_1174, X_211_1175, X_211_1176, X_211_1177, X_211_1178, X_211_1179, X_211_1180, X_211_1181, X_211_1182, X_211_1185, X_211_1185_f, X_211_1185_t, X_211_1188, X_211_1189, X_211_1337, X_211_1340, natS, nA2, nA3, nA4, nA5, Int.toNat_natCast, c1, e1, c2, pushR_some, fixp_r, fixp_i, n66]
  exact q
set_option maxRecDepth 100000 in
theorem LC_30 {L n : Nat} {h : AH} {Q : Option AV → AG → AH → Prop} (H : INV n h) (hn : n < 512) (hS : SCR L h) (hL : 6 * n + 6 ≤ L) (K : NXT L n h Q) : wp 30 211 1190 [some (.inr (.inr (some 1001))), some (.inr (.inr (some 0))), some (.inr (.inr (some 63))), some (.inl ((6 * n : Nat) : Int))] [] G1 h Q := by
  obtain ⟨r, h1, h2, hr, c1, c2, I⟩ := Op_lots (hS.2.2 (6 * n + 1)) (hS.2.2 (6 * n + 2)) n h H hn
  have g0 := g1_0
  have g63 := g1_63
  have k1 := call_keep gN_G1 c1
  have k2 := call_keep gN_G1 c2
  have e1 : h1 1001 = h 1001 := k1 1001 (by omega)
  have b0 := hS.1
  have b00 := hS.2.1
  have b1 : h1 1002 0 = (L : Int) := by rw [k1 1002 (by omega)]; exact b0
  have q := K h2 I (fun a ha => by rw [k2 a ha, k1 a ha])
  simp (disch := omega) only [X_211_1190, X_211_1191, X_211_1192, X_211_1193, X_211_1194, X_211_1195, X_211_1196, X_211_1197, X_211_1198, X_211_1199, X_211_1200, X_211_1201, X_211_1204, X_211_1205, X_211_1206, X_211_1207, X_211_1208, X_211_1209, X_211_1210, X_211_1211, X_211_1212, X_211_1213, X_211_1214, X_211_1215, X_211_1218, X_211_1218_f, X_211_1218_t, X_211_1221, X_211_1222, X_211_1337, X_211_1340, natS, nA2, nA3, nA4, nA5, Int.toNat_natCast, c1, e1, c2, pushR_some, fixp_r, fixp_i, n66]
  exact q
set_option maxRecDepth 100000 in
theorem LC_31 {L n : Nat} {h : AH} {Q : Option AV → AG → AH → Prop} (H : INV n h) (hn : n < 512) (hS : SCR L h) (hL : 6 * n + 6 ≤ L) (K : NXT L n h Q) : wp 30 211 1223 [some (.inr (.inr (some 1001))), some (.inr (.inr (some 0))), some (.inr (.inr (some 63))), some (.inl ((6 * n : Nat) : Int))] [] G1 h Q := by
  obtain ⟨r, h1, h2, hr, c1, c2, I⟩ := Op_asked  n h H hn
  have g0 := g1_0
  have g63 := g1_63
  have k1 := call_keep gN_G1 c1
  have k2 := call_keep gN_G1 c2
  have e1 : h1 1001 = h 1001 := k1 1001 (by omega)
  have b0 := hS.1
  have b00 := hS.2.1
  have b1 : h1 1002 0 = (L : Int) := by rw [k1 1002 (by omega)]; exact b0
  have q := K h2 I (fun a ha => by rw [k2 a ha, k1 a ha])
  simp (disch := omega) only [X_211_1223, X_211_1224, X_211_1227, X_211_1228, X_211_1231, X_211_1231_f, X_211_1231_t, X_211_1234, X_211_1235, X_211_1337, X_211_1340, natS, nA2, nA3, nA4, nA5, Int.toNat_natCast, c1, e1, c2, pushR_some, fixp_r, fixp_i, n66]
  exact q
set_option maxRecDepth 100000 in
theorem LC_32 {L n : Nat} {h : AH} {Q : Option AV → AG → AH → Prop} (H : INV n h) (hn : n < 512) (hS : SCR L h) (hL : 6 * n + 6 ≤ L) (K : NXT L n h Q) : wp 30 211 1236 [some (.inr (.inr (some 1001))), some (.inr (.inr (some 0))), some (.inr (.inr (some 63))), some (.inl ((6 * n : Nat) : Int))] [] G1 h Q := by
  obtain ⟨r, h1, h2, c1, c2, I⟩ := Op_upper  n h H hn
  have g0 := g1_0
  have g63 := g1_63
  have k1 := call_keep gN_G1 c1
  have k2 := call_keep gN_G1 c2
  have e1 : h1 1001 = h 1001 := k1 1001 (by omega)
  have b0 := hS.1
  have b00 := hS.2.1
  have b1 : h1 1002 0 = (L : Int) := by rw [k1 1002 (by omega)]; exact b0
  have q := K h2 I (fun a ha => by rw [k2 a ha, k1 a ha])
  simp (disch := omega) only [X_211_1236, X_211_1237, X_211_1240, X_211_1241, X_211_1244, X_211_1245, X_211_1245_f, X_211_1245_t, X_211_1248, X_211_1249, X_211_1337, X_211_1340, natS, nA2, nA3, nA4, nA5, Int.toNat_natCast, c1, e1, c2, pushR_some, fixp_r, fixp_i, n66, eq_self, if_true]
  exact q
set_option maxRecDepth 100000 in
theorem LC_33 {L n : Nat} {h : AH} {Q : Option AV → AG → AH → Prop} (H : INV n h) (hn : n < 512) (hS : SCR L h) (hL : 6 * n + 6 ≤ L) (K : NXT L n h Q) : wp 30 211 1250 [some (.inr (.inr (some 1001))), some (.inr (.inr (some 0))), some (.inr (.inr (some 63))), some (.inl ((6 * n : Nat) : Int))] [] G1 h Q := by
  obtain ⟨r, h1, h2, c1, c2, I⟩ := Op_lower  n h H hn
  have g0 := g1_0
  have g63 := g1_63
  have k1 := call_keep gN_G1 c1
  have k2 := call_keep gN_G1 c2
  have e1 : h1 1001 = h 1001 := k1 1001 (by omega)
  have b0 := hS.1
  have b00 := hS.2.1
  have b1 : h1 1002 0 = (L : Int) := by rw [k1 1002 (by omega)]; exact b0
  have q := K h2 I (fun a ha => by rw [k2 a ha, k1 a ha])
  simp (disch := omega) only [X_211_1250, X_211_1251, X_211_1254, X_211_1255, X_211_1258, X_211_1259, X_211_1259_f, X_211_1259_t, X_211_1262, X_211_1263, X_211_1337, X_211_1340, natS, nA2, nA3, nA4, nA5, Int.toNat_natCast, c1, e1, c2, pushR_some, fixp_r, fixp_i, n66, eq_self, if_true]
  exact q
set_option maxRecDepth 100000 in
theorem LC_34 {L n : Nat} {h : AH} {Q : Option AV → AG → AH → Prop} (H : INV n h) (hn : n < 512) (hS : SCR L h) (hL : 6 * n + 6 ≤ L) (K : NXT L n h Q) : wp 30 211 1264 [some (.inr (.inr (some 1001))), some (.inr (.inr (some 0))), some (.inr (.inr (some 63))), some (.inl ((6 * n : Nat) : Int))] [] G1 h Q := by
  obtain ⟨r, h1, h2, hr, c1, c2, I⟩ := Op_count (hS.2.2 (6 * n + 1)) n h H hn
  have g0 := g1_0
  have g63 := g1_63
  have k1 := call_keep gN_G1 c1
  have k2 := call_keep gN_G1 c2
  have e1 : h1 1001 = h 1001 := k1 1001 (by omega)
  have b0 := hS.1
  have b00 := hS.2.1
  have b1 : h1 1002 0 = (L : Int) := by rw [k1 1002 (by omega)]; exact b0
  have q := K h2 I (fun a ha => by rw [k2 a ha, k1 a ha])
  simp (disch := omega) only [X_211_1264, X_211_1265, X_211_1266, X_211_1267, X_211_1268, X_211_1269, X_211_1270, X_211_1273, X_211_1274, X_211_1275, X_211_1276, X_211_1277, X_211_1278, X_211_1279, X_211_1282, X_211_1282_f, X_211_1282_t, X_211_1285, X_211_1286, X_211_1337, X_211_1340, natS, nA2, nA3, nA4, nA5, Int.toNat_natCast, c1, e1, c2, pushR_some, fixp_r, fixp_i, n66]
  exact q
set_option maxRecDepth 100000 in
theorem LC_35 {L n : Nat} {h : AH} {Q : Option AV → AG → AH → Prop} (H : INV n h) (hn : n < 512) (hS : SCR L h) (hL : 6 * n + 6 ≤ L) (K : NXT L n h Q) : wp 30 211 1287 [some (.inr (.inr (some 1001))), some (.inr (.inr (some 0))), some (.inr (.inr (some 63))), some (.inl ((6 * n : Nat) : Int))] [] G1 h Q := by
  obtain ⟨r, h1, h2, hr, c1, c2, I⟩ := Op_finding  n h H hn
  have g0 := g1_0
  have g63 := g1_63
  have k1 := call_keep gN_G1 c1
  have k2 := call_keep gN_G1 c2
  have e1 : h1 1001 = h 1001 := k1 1001 (by omega)
  have b0 := hS.1
  have b00 := hS.2.1
  have b1 : h1 1002 0 = (L : Int) := by rw [k1 1002 (by omega)]; exact b0
  have q := K h2 I (fun a ha => by rw [k2 a ha, k1 a ha])
  simp (disch := omega) only [X_211_1287, X_211_1288, X_211_1291, X_211_1292, X_211_1295, X_211_1295_f, X_211_1295_t, X_211_1298, X_211_1299, X_211_1337, X_211_1340, natS, nA2, nA3, nA4, nA5, Int.toNat_natCast, c1, e1, c2, pushR_some, fixp_r, fixp_i, n66]
  exact q
set_option maxRecDepth 100000 in
theorem LC_36 {L n : Nat} {h : AH} {Q : Option AV → AG → AH → Prop} (H : INV n h) (hn : n < 512) (hS : SCR L h) (hL : 6 * n + 6 ≤ L) (K : NXT L n h Q) : wp 30 211 1300 [some (.inr (.inr (some 1001))), some (.inr (.inr (some 0))), some (.inr (.inr (some 63))), some (.inl ((6 * n : Nat) : Int))] [] G1 h Q := by
  obtain ⟨r, h1, h2, hr, c1, c2, I⟩ := Op_findings (hS.2.2 (6 * n + 1)) n h H hn
  have g0 := g1_0
  have g63 := g1_63
  have k1 := call_keep gN_G1 c1
  have k2 := call_keep gN_G1 c2
  have e1 : h1 1001 = h 1001 := k1 1001 (by omega)
  have b0 := hS.1
  have b00 := hS.2.1
  have b1 : h1 1002 0 = (L : Int) := by rw [k1 1002 (by omega)]; exact b0
  have q := K h2 I (fun a ha => by rw [k2 a ha, k1 a ha])
  simp (disch := omega) only [X_211_1300, X_211_1301, X_211_1302, X_211_1303, X_211_1304, X_211_1305, X_211_1306, X_211_1309, X_211_1310, X_211_1311, X_211_1312, X_211_1313, X_211_1314, X_211_1315, X_211_1318, X_211_1318_f, X_211_1318_t, X_211_1321, X_211_1322, X_211_1337, X_211_1340, natS, nA2, nA3, nA4, nA5, Int.toNat_natCast, c1, e1, c2, pushR_some, fixp_r, fixp_i, n66]
  exact q
set_option maxRecDepth 100000 in
theorem LC_37 {L n : Nat} {h : AH} {Q : Option AV → AG → AH → Prop} (H : INV n h) (hn : n < 512) (hS : SCR L h) (hL : 6 * n + 6 ≤ L) (K : NXT L n h Q) : wp 30 211 1323 [some (.inr (.inr (some 1001))), some (.inr (.inr (some 0))), some (.inr (.inr (some 63))), some (.inl ((6 * n : Nat) : Int))] [] G1 h Q := by
  obtain ⟨r, h1, h2, c1, c2, I⟩ := Op_digest  n h H hn
  have g0 := g1_0
  have g63 := g1_63
  have k1 := call_keep gN_G1 c1
  have k2 := call_keep gN_G1 c2
  have e1 : h1 1001 = h 1001 := k1 1001 (by omega)
  have b0 := hS.1
  have b00 := hS.2.1
  have b1 : h1 1002 0 = (L : Int) := by rw [k1 1002 (by omega)]; exact b0
  have q := K h2 I (fun a ha => by rw [k2 a ha, k1 a ha])
  simp (disch := omega) only [X_211_1323, X_211_1324, X_211_1327, X_211_1328, X_211_1331, X_211_1332, X_211_1332_f, X_211_1332_t, X_211_1335, X_211_1336, X_211_1337, X_211_1340, natS, nA2, nA3, nA4, nA5, Int.toNat_natCast, c1, e1, c2, pushR_some, fixp_r, fixp_i, n66, eq_self, if_true]
  exact q
