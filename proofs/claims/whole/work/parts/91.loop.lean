/-! ===== the law's loop ===== -/
theorem ixL {sc : Int32 × (Int32 → Int32)} {n q : Nat} (hn : sc.1 = nI n) (h31 : n < 2 ^ 31) (h : q < n) : (nI q < 0 ∨ sc.1.toNatClampNeg ≤ (nI q).toNatClampNeg) = False := by
  rw [hn, nI_clamp h31, nI_clamp (show q < 2 ^ 31 by omega)]
  exact eq_false (fun e => e.elim (fun e => absurd e (nI_pos (by omega))) (fun e => by omega))
theorem lgc {x : Int64} : (lg_cmp x x = 0) = True := eq_true ((lg_cmp_eq x x).mpr rfl)
theorem l_0 {sc : Int32 × (Int32 → Int32)} {f : zF} {a : zA} {j : zJ} {i n : Nat} (hn : sc.1 = nI n) (h31 : n < 2 ^ 31) (hi : i + 6 ≤ n) (hI : Iv f a j) : ∃ (f2 : zF) (a2 : zA) (j2 : zJ), Iv f2 a2 j2 ∧ rn sc (cf sc 8) 0 208 [.ref 999, .ref 0, .ref 85, .int (nI i)] [] f a j = rn sc (cf sc 8) 0 18 [.ref 999, .ref 0, .ref 85, .int (nI (i + 6))] [] f2 a2 j2 := by
  obtain ⟨σ, τ, kb, tx, tn, T, c, r⟩ := hI
  have ix1 := ixL hn h31 (show i + 1 < n by omega)
  have ix2 := ixL hn h31 (show i + 2 < n by omega)
  obtain ⟨v, f1, a1, j1, f2, a2, j2, h1, h2, h3⟩ := o_0 (sc := sc) (v1 := sc.2 (nI (i + 1))) (v2 := sc.2 (nI (i + 2))) c r
  refine ⟨f2, a2, j2, h3, ?_⟩
  simp only [q0_208, q0_209, q0_210, q0_211, q0_212, q0_213, q0_214, q0_215, q0_216, q0_217, q0_218, q0_219, q0_222, q0_223, q0_224, q0_225, q0_226, q0_227, q0_228, q0_229, q0_230, q0_231, q0_232, q0_233, q0_236, q0_1407, q0_1410, ix1, ix2, h1, h2, zCall_some, Option.toList, List.cons_append, List.nil_append, zb_0, zb_1, zem, z01, z11, nI_add, ↓reduceIte, not_true_eq_false, not_false_eq_true, n0T, n1F, n11T, true_or, or_true, false_or]
theorem l_1 {sc : Int32 × (Int32 → Int32)} {f : zF} {a : zA} {j : zJ} {i n : Nat} (hn : sc.1 = nI n) (h31 : n < 2 ^ 31) (hi : i + 6 ≤ n) (hI : Iv f a j) : ∃ (f2 : zF) (a2 : zA) (j2 : zJ), Iv f2 a2 j2 ∧ rn sc (cf sc 8) 0 241 [.ref 999, .ref 0, .ref 85, .int (nI i)] [] f a j = rn sc (cf sc 8) 0 18 [.ref 999, .ref 0, .ref 85, .int (nI (i + 6))] [] f2 a2 j2 := by
  obtain ⟨σ, τ, kb, tx, tn, T, c, r⟩ := hI
  have ix1 := ixL hn h31 (show i + 1 < n by omega)
  have ix2 := ixL hn h31 (show i + 2 < n by omega)
  have ix3 := ixL hn h31 (show i + 3 < n by omega)
  obtain ⟨v, f1, a1, j1, f2, a2, j2, h1, h2, h3⟩ := o_1 (sc := sc) (v1 := sc.2 (nI (i + 1))) (v2 := sc.2 (nI (i + 2))) (v3 := sc.2 (nI (i + 3))) c r
  refine ⟨f2, a2, j2, h3, ?_⟩
  simp only [q0_241, q0_242, q0_243, q0_244, q0_245, q0_246, q0_247, q0_248, q0_249, q0_250, q0_251, q0_252, q0_253, q0_254, q0_255, q0_256, q0_257, q0_260, q0_261, q0_262, q0_263, q0_264, q0_265, q0_266, q0_267, q0_268, q0_269, q0_270, q0_271, q0_272, q0_273, q0_274, q0_275, q0_276, q0_279, q0_1407, q0_1410, ix1, ix2, ix3, h1, h2, zCall_some, Option.toList, List.cons_append, List.nil_append, zb_0, zb_1, zem, z01, z11, nI_add, ↓reduceIte, not_true_eq_false, not_false_eq_true, n0T, n1F, n11T, true_or, or_true, false_or]
theorem l_2 {sc : Int32 × (Int32 → Int32)} {f : zF} {a : zA} {j : zJ} {i n : Nat} (hn : sc.1 = nI n) (h31 : n < 2 ^ 31) (hi : i + 6 ≤ n) (hI : Iv f a j) : ∃ (f2 : zF) (a2 : zA) (j2 : zJ), Iv f2 a2 j2 ∧ rn sc (cf sc 8) 0 284 [.ref 999, .ref 0, .ref 85, .int (nI i)] [] f a j = rn sc (cf sc 8) 0 18 [.ref 999, .ref 0, .ref 85, .int (nI (i + 6))] [] f2 a2 j2 := by
  obtain ⟨σ, τ, kb, tx, tn, T, c, r⟩ := hI
  have ix1 := ixL hn h31 (show i + 1 < n by omega)
  have ix2 := ixL hn h31 (show i + 2 < n by omega)
  by_cases hb : sc.2 (nI (i + 2)) = 0
  · obtain ⟨v, f1, a1, j1, f2, a2, j2, h1, h2, h3⟩ := o_2 (sc := sc) (v1 := sc.2 (nI (i + 1))) (v2 := nI 0) c r
    refine ⟨f2, a2, j2, h3, ?_⟩
    simp only [q0_284, q0_285, q0_286, q0_287, q0_288, q0_289, q0_290, q0_291, q0_292, q0_293, q0_294, q0_295, q0_298, q0_299, q0_302, q0_303, q0_306, q0_307, q0_308, q0_309, q0_310, q0_311, q0_312, q0_313, q0_314, q0_315, q0_316, q0_317, q0_320, q0_321, q0_324, q0_325, q0_328, q0_1407, q0_1410, ix1, ix2, h1, h2, hb, zCall_some, Option.toList, List.cons_append, List.nil_append, zb_0, zb_1, zem, z01, z11, nI_add, ↓reduceIte, not_true_eq_false, not_false_eq_true, n0T, n1F, n11T, true_or, or_true, false_or]
  · obtain ⟨v, f1, a1, j1, f2, a2, j2, h1, h2, h3⟩ := o_2 (sc := sc) (v1 := sc.2 (nI (i + 1))) (v2 := nI 1) c r
    refine ⟨f2, a2, j2, h3, ?_⟩
    simp only [q0_284, q0_285, q0_286, q0_287, q0_288, q0_289, q0_290, q0_291, q0_292, q0_293, q0_294, q0_295, q0_298, q0_299, q0_302, q0_303, q0_306, q0_307, q0_308, q0_309, q0_310, q0_311, q0_312, q0_313, q0_314, q0_315, q0_316, q0_317, q0_320, q0_321, q0_324, q0_325, q0_328, q0_1407, q0_1410, ix1, ix2, h1, h2, hb, zCall_some, Option.toList, List.cons_append, List.nil_append, zb_0, zb_1, zem, z01, z11, nI_add, ↓reduceIte, not_true_eq_false, not_false_eq_true, n0T, n1F, n11T, true_or, or_true, false_or]
theorem l_3 {sc : Int32 × (Int32 → Int32)} {f : zF} {a : zA} {j : zJ} {i n : Nat} (hn : sc.1 = nI n) (h31 : n < 2 ^ 31) (hi : i + 6 ≤ n) (hI : Iv f a j) : ∃ (f2 : zF) (a2 : zA) (j2 : zJ), Iv f2 a2 j2 ∧ rn sc (cf sc 8) 0 333 [.ref 999, .ref 0, .ref 85, .int (nI i)] [] f a j = rn sc (cf sc 8) 0 18 [.ref 999, .ref 0, .ref 85, .int (nI (i + 6))] [] f2 a2 j2 := by
  obtain ⟨σ, τ, kb, tx, tn, T, c, r⟩ := hI
  have ix1 := ixL hn h31 (show i + 1 < n by omega)
  have ix2 := ixL hn h31 (show i + 2 < n by omega)
  have ix3 := ixL hn h31 (show i + 3 < n by omega)
  obtain ⟨v, f1, a1, j1, f2, a2, j2, h1, h2, h3⟩ := o_3 (sc := sc) (v1 := sc.2 (nI (i + 1))) (v2 := sc.2 (nI (i + 2))) (v3 := sc.2 (nI (i + 3))) c r
  refine ⟨f2, a2, j2, h3, ?_⟩
  simp only [q0_333, q0_334, q0_335, q0_336, q0_337, q0_338, q0_339, q0_340, q0_341, q0_342, q0_343, q0_344, q0_345, q0_346, q0_347, q0_348, q0_349, q0_352, q0_353, q0_354, q0_355, q0_356, q0_357, q0_358, q0_359, q0_360, q0_361, q0_362, q0_363, q0_364, q0_365, q0_366, q0_367, q0_368, q0_371, q0_1407, q0_1410, ix1, ix2, ix3, h1, h2, zCall_some, Option.toList, List.cons_append, List.nil_append, zb_0, zb_1, zem, z01, z11, nI_add, ↓reduceIte, not_true_eq_false, not_false_eq_true, n0T, n1F, n11T, true_or, or_true, false_or]
theorem l_4 {sc : Int32 × (Int32 → Int32)} {f : zF} {a : zA} {j : zJ} {i n : Nat} (hn : sc.1 = nI n) (h31 : n < 2 ^ 31) (hi : i + 6 ≤ n) (hI : Iv f a j) : ∃ (f2 : zF) (a2 : zA) (j2 : zJ), Iv f2 a2 j2 ∧ rn sc (cf sc 8) 0 376 [.ref 999, .ref 0, .ref 85, .int (nI i)] [] f a j = rn sc (cf sc 8) 0 18 [.ref 999, .ref 0, .ref 85, .int (nI (i + 6))] [] f2 a2 j2 := by
  obtain ⟨σ, τ, kb, tx, tn, T, c, r⟩ := hI
  have ix1 := ixL hn h31 (show i + 1 < n by omega)
  have ix2 := ixL hn h31 (show i + 2 < n by omega)
  obtain ⟨v, f1, a1, j1, f2, a2, j2, h1, h2, h3⟩ := o_4 (sc := sc) (v1 := sc.2 (nI (i + 1))) (v2 := sc.2 (nI (i + 2))) c r
  refine ⟨f2, a2, j2, h3, ?_⟩
  simp only [q0_376, q0_377, q0_378, q0_379, q0_380, q0_381, q0_382, q0_383, q0_384, q0_385, q0_386, q0_387, q0_390, q0_391, q0_392, q0_393, q0_394, q0_395, q0_396, q0_397, q0_398, q0_399, q0_400, q0_401, q0_404, q0_1407, q0_1410, ix1, ix2, h1, h2, zCall_some, Option.toList, List.cons_append, List.nil_append, zb_0, zb_1, zem, z01, z11, nI_add, ↓reduceIte, not_true_eq_false, not_false_eq_true, n0T, n1F, n11T, true_or, or_true, false_or]
theorem l_5 {sc : Int32 × (Int32 → Int32)} {f : zF} {a : zA} {j : zJ} {i n : Nat} (hn : sc.1 = nI n) (h31 : n < 2 ^ 31) (hi : i + 6 ≤ n) (hI : Iv f a j) : ∃ (f2 : zF) (a2 : zA) (j2 : zJ), Iv f2 a2 j2 ∧ rn sc (cf sc 8) 0 409 [.ref 999, .ref 0, .ref 85, .int (nI i)] [] f a j = rn sc (cf sc 8) 0 18 [.ref 999, .ref 0, .ref 85, .int (nI (i + 6))] [] f2 a2 j2 := by
  obtain ⟨σ, τ, kb, tx, tn, T, c, r⟩ := hI
  have ix1 := ixL hn h31 (show i + 1 < n by omega)
  obtain ⟨v, f1, a1, j1, f2, a2, j2, h1, h2, h3⟩ := o_5 (sc := sc) (v1 := sc.2 (nI (i + 1))) c r
  refine ⟨f2, a2, j2, h3, ?_⟩
  simp only [q0_409, q0_410, q0_411, q0_412, q0_413, q0_414, q0_415, q0_418, q0_419, q0_420, q0_421, q0_422, q0_423, q0_424, q0_427, q0_1407, q0_1410, ix1, h1, h2, zCall_some, Option.toList, List.cons_append, List.nil_append, zb_0, zb_1, zem, z01, z11, nI_add, ↓reduceIte, not_true_eq_false, not_false_eq_true, n0T, n1F, n11T, true_or, or_true, false_or]
theorem l_6 {sc : Int32 × (Int32 → Int32)} {f : zF} {a : zA} {j : zJ} {i n : Nat} (hn : sc.1 = nI n) (h31 : n < 2 ^ 31) (hi : i + 6 ≤ n) (hI : Iv f a j) : ∃ (f2 : zF) (a2 : zA) (j2 : zJ), Iv f2 a2 j2 ∧ rn sc (cf sc 8) 0 432 [.ref 999, .ref 0, .ref 85, .int (nI i)] [] f a j = rn sc (cf sc 8) 0 18 [.ref 999, .ref 0, .ref 85, .int (nI (i + 6))] [] f2 a2 j2 := by
  obtain ⟨σ, τ, kb, tx, tn, T, c, r⟩ := hI
  have ix1 := ixL hn h31 (show i + 1 < n by omega)
  obtain ⟨v, f1, a1, j1, f2, a2, j2, h1, h2, h3⟩ := o_6 (sc := sc) (v1 := sc.2 (nI (i + 1))) c r
  refine ⟨f2, a2, j2, h3, ?_⟩
  simp only [q0_432, q0_433, q0_434, q0_435, q0_436, q0_437, q0_438, q0_441, q0_442, q0_443, q0_444, q0_445, q0_446, q0_447, q0_450, q0_1407, q0_1410, ix1, h1, h2, zCall_some, Option.toList, List.cons_append, List.nil_append, zb_0, zb_1, zem, z01, z11, nI_add, ↓reduceIte, not_true_eq_false, not_false_eq_true, n0T, n1F, n11T, true_or, or_true, false_or]
theorem l_7 {sc : Int32 × (Int32 → Int32)} {f : zF} {a : zA} {j : zJ} {i n : Nat} (hn : sc.1 = nI n) (h31 : n < 2 ^ 31) (hi : i + 6 ≤ n) (hI : Iv f a j) : ∃ (f2 : zF) (a2 : zA) (j2 : zJ), Iv f2 a2 j2 ∧ rn sc (cf sc 8) 0 455 [.ref 999, .ref 0, .ref 85, .int (nI i)] [] f a j = rn sc (cf sc 8) 0 18 [.ref 999, .ref 0, .ref 85, .int (nI (i + 6))] [] f2 a2 j2 := by
  obtain ⟨σ, τ, kb, tx, tn, T, c, r⟩ := hI
  have ix1 := ixL hn h31 (show i + 1 < n by omega)
  obtain ⟨v, f1, a1, j1, f2, a2, j2, h1, h2, h3⟩ := o_7 (sc := sc) (v1 := sc.2 (nI (i + 1))) c r
  refine ⟨f2, a2, j2, h3, ?_⟩
  simp only [q0_455, q0_456, q0_457, q0_458, q0_459, q0_460, q0_461, q0_464, q0_465, q0_466, q0_467, q0_468, q0_469, q0_470, q0_473, q0_1407, q0_1410, ix1, h1, h2, zCall_some, Option.toList, List.cons_append, List.nil_append, zb_0, zb_1, zem, z01, z11, nI_add, ↓reduceIte, not_true_eq_false, not_false_eq_true, n0T, n1F, n11T, true_or, or_true, false_or]
theorem l_8 {sc : Int32 × (Int32 → Int32)} {f : zF} {a : zA} {j : zJ} {i n : Nat} (hn : sc.1 = nI n) (h31 : n < 2 ^ 31) (hi : i + 6 ≤ n) (hI : Iv f a j) : ∃ (f2 : zF) (a2 : zA) (j2 : zJ), Iv f2 a2 j2 ∧ rn sc (cf sc 8) 0 478 [.ref 999, .ref 0, .ref 85, .int (nI i)] [] f a j = rn sc (cf sc 8) 0 18 [.ref 999, .ref 0, .ref 85, .int (nI (i + 6))] [] f2 a2 j2 := by
  obtain ⟨σ, τ, kb, tx, tn, T, c, r⟩ := hI
  have ix1 := ixL hn h31 (show i + 1 < n by omega)
  have ix2 := ixL hn h31 (show i + 2 < n by omega)
  obtain ⟨v, f1, a1, j1, f2, a2, j2, h1, h2, h3⟩ := o_8 (sc := sc) (v1 := sc.2 (nI (i + 1))) (v2 := sc.2 (nI (i + 2))) c r
  refine ⟨f2, a2, j2, h3, ?_⟩
  simp only [q0_478, q0_479, q0_480, q0_481, q0_482, q0_483, q0_484, q0_485, q0_486, q0_487, q0_488, q0_489, q0_492, q0_493, q0_494, q0_495, q0_496, q0_497, q0_498, q0_499, q0_500, q0_501, q0_502, q0_503, q0_506, q0_1407, q0_1410, ix1, ix2, h1, h2, zCall_some, Option.toList, List.cons_append, List.nil_append, zb_0, zb_1, zem, z01, z11, nI_add, ↓reduceIte, not_true_eq_false, not_false_eq_true, n0T, n1F, n11T, true_or, or_true, false_or]
theorem l_9 {sc : Int32 × (Int32 → Int32)} {f : zF} {a : zA} {j : zJ} {i n : Nat} (hn : sc.1 = nI n) (h31 : n < 2 ^ 31) (hi : i + 6 ≤ n) (hI : Iv f a j) : ∃ (f2 : zF) (a2 : zA) (j2 : zJ), Iv f2 a2 j2 ∧ rn sc (cf sc 8) 0 511 [.ref 999, .ref 0, .ref 85, .int (nI i)] [] f a j = rn sc (cf sc 8) 0 18 [.ref 999, .ref 0, .ref 85, .int (nI (i + 6))] [] f2 a2 j2 := by
  obtain ⟨σ, τ, kb, tx, tn, T, c, r⟩ := hI
  have ix1 := ixL hn h31 (show i + 1 < n by omega)
  obtain ⟨v, f1, a1, j1, f2, a2, j2, h1, h2, h3⟩ := o_9 (sc := sc) (v1 := sc.2 (nI (i + 1))) c r
  refine ⟨f2, a2, j2, h3, ?_⟩
  simp only [q0_511, q0_512, q0_513, q0_514, q0_515, q0_516, q0_517, q0_520, q0_521, q0_522, q0_523, q0_524, q0_525, q0_526, q0_529, q0_1407, q0_1410, ix1, h1, h2, zCall_some, Option.toList, List.cons_append, List.nil_append, zb_0, zb_1, zem, z01, z11, nI_add, ↓reduceIte, not_true_eq_false, not_false_eq_true, n0T, n1F, n11T, true_or, or_true, false_or]
theorem l_10 {sc : Int32 × (Int32 → Int32)} {f : zF} {a : zA} {j : zJ} {i n : Nat} (hn : sc.1 = nI n) (h31 : n < 2 ^ 31) (hi : i + 6 ≤ n) (hI : Iv f a j) : ∃ (f2 : zF) (a2 : zA) (j2 : zJ), Iv f2 a2 j2 ∧ rn sc (cf sc 8) 0 534 [.ref 999, .ref 0, .ref 85, .int (nI i)] [] f a j = rn sc (cf sc 8) 0 18 [.ref 999, .ref 0, .ref 85, .int (nI (i + 6))] [] f2 a2 j2 := by
  obtain ⟨σ, τ, kb, tx, tn, T, c, r⟩ := hI
  obtain ⟨v, f1, a1, j1, f2, a2, j2, h1, h2, h3⟩ := o_10 (sc := sc)  c r
  refine ⟨f2, a2, j2, h3, ?_⟩
  simp only [q0_534, q0_535, q0_538, q0_539, q0_542, q0_1407, q0_1410, h1, h2, zCall_some, Option.toList, List.cons_append, List.nil_append, zb_0, zb_1, zem, z01, z11, nI_add, ↓reduceIte, not_true_eq_false, not_false_eq_true, n0T, n1F, n11T, true_or, or_true, false_or]
theorem l_11 {sc : Int32 × (Int32 → Int32)} {f : zF} {a : zA} {j : zJ} {i n : Nat} (hn : sc.1 = nI n) (h31 : n < 2 ^ 31) (hi : i + 6 ≤ n) (hI : Iv f a j) : ∃ (f2 : zF) (a2 : zA) (j2 : zJ), Iv f2 a2 j2 ∧ rn sc (cf sc 8) 0 547 [.ref 999, .ref 0, .ref 85, .int (nI i)] [] f a j = rn sc (cf sc 8) 0 18 [.ref 999, .ref 0, .ref 85, .int (nI (i + 6))] [] f2 a2 j2 := by
  obtain ⟨σ, τ, kb, tx, tn, T, c, r⟩ := hI
  have ix1 := ixL hn h31 (show i + 1 < n by omega)
  obtain ⟨v, f1, a1, j1, f2, a2, j2, h1, h2, h3⟩ := o_11 (sc := sc) (v1 := sc.2 (nI (i + 1))) c r
  refine ⟨f2, a2, j2, h3, ?_⟩
  simp only [q0_547, q0_548, q0_549, q0_550, q0_551, q0_552, q0_553, q0_556, q0_557, q0_558, q0_559, q0_560, q0_561, q0_562, q0_565, q0_1407, q0_1410, ix1, h1, h2, zCall_some, Option.toList, List.cons_append, List.nil_append, zb_0, zb_1, zem, z01, z11, nI_add, ↓reduceIte, not_true_eq_false, not_false_eq_true, n0T, n1F, n11T, true_or, or_true, false_or]
theorem l_12 {sc : Int32 × (Int32 → Int32)} {f : zF} {a : zA} {j : zJ} {i n : Nat} (hn : sc.1 = nI n) (h31 : n < 2 ^ 31) (hi : i + 6 ≤ n) (hI : Iv f a j) : ∃ (f2 : zF) (a2 : zA) (j2 : zJ), Iv f2 a2 j2 ∧ rn sc (cf sc 8) 0 570 [.ref 999, .ref 0, .ref 85, .int (nI i)] [] f a j = rn sc (cf sc 8) 0 18 [.ref 999, .ref 0, .ref 85, .int (nI (i + 6))] [] f2 a2 j2 := by
  obtain ⟨σ, τ, kb, tx, tn, T, c, r⟩ := hI
  have ix1 := ixL hn h31 (show i + 1 < n by omega)
  obtain ⟨v, f1, a1, j1, f2, a2, j2, h1, h2, h3⟩ := o_12 (sc := sc) (v1 := sc.2 (nI (i + 1))) c r
  refine ⟨f2, a2, j2, h3, ?_⟩
  simp only [q0_570, q0_571, q0_572, q0_573, q0_574, q0_575, q0_576, q0_579, q0_580, q0_581, q0_582, q0_583, q0_584, q0_585, q0_588, q0_1407, q0_1410, ix1, h1, h2, zCall_some, Option.toList, List.cons_append, List.nil_append, zb_0, zb_1, zem, z01, z11, nI_add, ↓reduceIte, not_true_eq_false, not_false_eq_true, n0T, n1F, n11T, true_or, or_true, false_or]
theorem l_13 {sc : Int32 × (Int32 → Int32)} {f : zF} {a : zA} {j : zJ} {i n : Nat} (hn : sc.1 = nI n) (h31 : n < 2 ^ 31) (hi : i + 6 ≤ n) (hI : Iv f a j) : ∃ (f2 : zF) (a2 : zA) (j2 : zJ), Iv f2 a2 j2 ∧ rn sc (cf sc 8) 0 593 [.ref 999, .ref 0, .ref 85, .int (nI i)] [] f a j = rn sc (cf sc 8) 0 18 [.ref 999, .ref 0, .ref 85, .int (nI (i + 6))] [] f2 a2 j2 := by
  obtain ⟨σ, τ, kb, tx, tn, T, c, r⟩ := hI
  have ix1 := ixL hn h31 (show i + 1 < n by omega)
  obtain ⟨v, f1, a1, j1, f2, a2, j2, h1, h2, h3⟩ := o_13 (sc := sc) (v1 := sc.2 (nI (i + 1))) c r
  refine ⟨f2, a2, j2, h3, ?_⟩
  simp only [q0_593, q0_594, q0_595, q0_596, q0_597, q0_598, q0_599, q0_602, q0_603, q0_604, q0_605, q0_606, q0_607, q0_608, q0_611, q0_1407, q0_1410, ix1, h1, h2, zCall_some, Option.toList, List.cons_append, List.nil_append, zb_0, zb_1, zem, z01, z11, nI_add, ↓reduceIte, not_true_eq_false, not_false_eq_true, n0T, n1F, n11T, true_or, or_true, false_or]
theorem l_14 {sc : Int32 × (Int32 → Int32)} {f : zF} {a : zA} {j : zJ} {i n : Nat} (hn : sc.1 = nI n) (h31 : n < 2 ^ 31) (hi : i + 6 ≤ n) (hI : Iv f a j) : ∃ (f2 : zF) (a2 : zA) (j2 : zJ), Iv f2 a2 j2 ∧ rn sc (cf sc 8) 0 616 [.ref 999, .ref 0, .ref 85, .int (nI i)] [] f a j = rn sc (cf sc 8) 0 18 [.ref 999, .ref 0, .ref 85, .int (nI (i + 6))] [] f2 a2 j2 := by
  obtain ⟨σ, τ, kb, tx, tn, T, c, r⟩ := hI
  have ix1 := ixL hn h31 (show i + 1 < n by omega)
  obtain ⟨v, f1, a1, j1, f2, a2, j2, h1, h2, h3⟩ := o_14 (sc := sc) (v1 := sc.2 (nI (i + 1))) c r
  refine ⟨f2, a2, j2, h3, ?_⟩
  simp only [q0_616, q0_617, q0_618, q0_619, q0_620, q0_621, q0_622, q0_625, q0_626, q0_627, q0_628, q0_629, q0_630, q0_631, q0_634, q0_1407, q0_1410, ix1, h1, h2, zCall_some, Option.toList, List.cons_append, List.nil_append, zb_0, zb_1, zem, z01, z11, nI_add, ↓reduceIte, not_true_eq_false, not_false_eq_true, n0T, n1F, n11T, true_or, or_true, false_or]
theorem l_15 {sc : Int32 × (Int32 → Int32)} {f : zF} {a : zA} {j : zJ} {i n : Nat} (hn : sc.1 = nI n) (h31 : n < 2 ^ 31) (hi : i + 6 ≤ n) (hI : Iv f a j) : ∃ (f2 : zF) (a2 : zA) (j2 : zJ), Iv f2 a2 j2 ∧ rn sc (cf sc 8) 0 639 [.ref 999, .ref 0, .ref 85, .int (nI i)] [] f a j = rn sc (cf sc 8) 0 18 [.ref 999, .ref 0, .ref 85, .int (nI (i + 6))] [] f2 a2 j2 := by
  obtain ⟨σ, τ, kb, tx, tn, T, c, r⟩ := hI
  have ix1 := ixL hn h31 (show i + 1 < n by omega)
  have ix2 := ixL hn h31 (show i + 2 < n by omega)
  obtain ⟨v, f1, a1, j1, f2, a2, j2, h1, h2, h3⟩ := o_15 (sc := sc) (v1 := sc.2 (nI (i + 1))) (v2 := sc.2 (nI (i + 2))) c r
  refine ⟨f2, a2, j2, h3, ?_⟩
  simp only [q0_639, q0_640, q0_641, q0_642, q0_643, q0_644, q0_645, q0_646, q0_647, q0_648, q0_649, q0_650, q0_653, q0_654, q0_655, q0_656, q0_657, q0_658, q0_659, q0_660, q0_661, q0_662, q0_663, q0_664, q0_667, q0_1407, q0_1410, ix1, ix2, h1, h2, zCall_some, Option.toList, List.cons_append, List.nil_append, zb_0, zb_1, zem, z01, z11, nI_add, ↓reduceIte, not_true_eq_false, not_false_eq_true, n0T, n1F, n11T, true_or, or_true, false_or]
theorem l_16 {sc : Int32 × (Int32 → Int32)} {f : zF} {a : zA} {j : zJ} {i n : Nat} (hn : sc.1 = nI n) (h31 : n < 2 ^ 31) (hi : i + 6 ≤ n) (hI : Iv f a j) : ∃ (f2 : zF) (a2 : zA) (j2 : zJ), Iv f2 a2 j2 ∧ rn sc (cf sc 8) 0 672 [.ref 999, .ref 0, .ref 85, .int (nI i)] [] f a j = rn sc (cf sc 8) 0 18 [.ref 999, .ref 0, .ref 85, .int (nI (i + 6))] [] f2 a2 j2 := by
  obtain ⟨σ, τ, kb, tx, tn, T, c, r⟩ := hI
  have ix1 := ixL hn h31 (show i + 1 < n by omega)
  obtain ⟨v, f1, a1, j1, f2, a2, j2, h1, h2, h3⟩ := o_16 (sc := sc) (v1 := sc.2 (nI (i + 1))) c r
  refine ⟨f2, a2, j2, h3, ?_⟩
  simp only [q0_672, q0_673, q0_674, q0_675, q0_676, q0_677, q0_678, q0_681, q0_682, q0_683, q0_684, q0_685, q0_686, q0_687, q0_690, q0_1407, q0_1410, ix1, h1, h2, zCall_some, Option.toList, List.cons_append, List.nil_append, zb_0, zb_1, zem, z01, z11, nI_add, ↓reduceIte, not_true_eq_false, not_false_eq_true, n0T, n1F, n11T, true_or, or_true, false_or]
theorem l_17 {sc : Int32 × (Int32 → Int32)} {f : zF} {a : zA} {j : zJ} {i n : Nat} (hn : sc.1 = nI n) (h31 : n < 2 ^ 31) (hi : i + 6 ≤ n) (hI : Iv f a j) : ∃ (f2 : zF) (a2 : zA) (j2 : zJ), Iv f2 a2 j2 ∧ rn sc (cf sc 8) 0 695 [.ref 999, .ref 0, .ref 85, .int (nI i)] [] f a j = rn sc (cf sc 8) 0 18 [.ref 999, .ref 0, .ref 85, .int (nI (i + 6))] [] f2 a2 j2 := by
  obtain ⟨σ, τ, kb, tx, tn, T, c, r⟩ := hI
  have ix1 := ixL hn h31 (show i + 1 < n by omega)
  have ix2 := ixL hn h31 (show i + 2 < n by omega)
  have ix3 := ixL hn h31 (show i + 3 < n by omega)
  obtain ⟨v, f1, a1, j1, f2, a2, j2, h1, h2, h3⟩ := o_17 (sc := sc) (v1 := sc.2 (nI (i + 1))) (v2 := sc.2 (nI (i + 2))) (v3 := sc.2 (nI (i + 3))) c r
  refine ⟨f2, a2, j2, h3, ?_⟩
  simp only [q0_695, q0_696, q0_697, q0_698, q0_699, q0_700, q0_701, q0_702, q0_703, q0_704, q0_705, q0_706, q0_707, q0_708, q0_709, q0_710, q0_711, q0_714, q0_715, q0_716, q0_717, q0_718, q0_719, q0_720, q0_721, q0_722, q0_723, q0_724, q0_725, q0_726, q0_727, q0_728, q0_729, q0_730, q0_733, q0_1407, q0_1410, ix1, ix2, ix3, h1, h2, zCall_some, Option.toList, List.cons_append, List.nil_append, zb_0, zb_1, zem, z01, z11, nI_add, ↓reduceIte, not_true_eq_false, not_false_eq_true, n0T, n1F, n11T, true_or, or_true, false_or]
theorem l_18 {sc : Int32 × (Int32 → Int32)} {f : zF} {a : zA} {j : zJ} {i n : Nat} (hn : sc.1 = nI n) (h31 : n < 2 ^ 31) (hi : i + 6 ≤ n) (hI : Iv f a j) : ∃ (f2 : zF) (a2 : zA) (j2 : zJ), Iv f2 a2 j2 ∧ rn sc (cf sc 8) 0 738 [.ref 999, .ref 0, .ref 85, .int (nI i)] [] f a j = rn sc (cf sc 8) 0 18 [.ref 999, .ref 0, .ref 85, .int (nI (i + 6))] [] f2 a2 j2 := by
  obtain ⟨σ, τ, kb, tx, tn, T, c, r⟩ := hI
  obtain ⟨v, f1, a1, j1, f2, a2, j2, h1, h2, h3⟩ := o_18 (sc := sc)  c r
  refine ⟨f2, a2, j2, h3, ?_⟩
  simp only [q0_738, q0_739, q0_742, q0_743, q0_746, q0_1407, q0_1410, h1, h2, zCall_some, Option.toList, List.cons_append, List.nil_append, zb_0, zb_1, zem, z01, z11, nI_add, ↓reduceIte, not_true_eq_false, not_false_eq_true, n0T, n1F, n11T, true_or, or_true, false_or]
theorem l_19 {sc : Int32 × (Int32 → Int32)} {f : zF} {a : zA} {j : zJ} {i n : Nat} (hn : sc.1 = nI n) (h31 : n < 2 ^ 31) (hi : i + 6 ≤ n) (hI : Iv f a j) : ∃ (f2 : zF) (a2 : zA) (j2 : zJ), Iv f2 a2 j2 ∧ rn sc (cf sc 8) 0 751 [.ref 999, .ref 0, .ref 85, .int (nI i)] [] f a j = rn sc (cf sc 8) 0 18 [.ref 999, .ref 0, .ref 85, .int (nI (i + 6))] [] f2 a2 j2 := by
  obtain ⟨σ, τ, kb, tx, tn, T, c, r⟩ := hI
  have ix1 := ixL hn h31 (show i + 1 < n by omega)
  have ix2 := ixL hn h31 (show i + 2 < n by omega)
  obtain ⟨v, f1, a1, j1, f2, a2, j2, h1, h2, h3⟩ := o_19 (sc := sc) (v1 := sc.2 (nI (i + 1))) (v2 := sc.2 (nI (i + 2))) c r
  refine ⟨f2, a2, j2, h3, ?_⟩
  simp only [q0_751, q0_752, q0_753, q0_754, q0_755, q0_756, q0_757, q0_758, q0_759, q0_760, q0_761, q0_762, q0_765, q0_766, q0_767, q0_768, q0_769, q0_770, q0_771, q0_772, q0_773, q0_774, q0_775, q0_776, q0_779, q0_1407, q0_1410, ix1, ix2, h1, h2, zCall_some, Option.toList, List.cons_append, List.nil_append, zb_0, zb_1, zem, z01, z11, nI_add, ↓reduceIte, not_true_eq_false, not_false_eq_true, n0T, n1F, n11T, true_or, or_true, false_or]
theorem l_20 {sc : Int32 × (Int32 → Int32)} {f : zF} {a : zA} {j : zJ} {i n : Nat} (hn : sc.1 = nI n) (h31 : n < 2 ^ 31) (hi : i + 6 ≤ n) (hI : Iv f a j) : ∃ (f2 : zF) (a2 : zA) (j2 : zJ), Iv f2 a2 j2 ∧ rn sc (cf sc 8) 0 784 [.ref 999, .ref 0, .ref 85, .int (nI i)] [] f a j = rn sc (cf sc 8) 0 18 [.ref 999, .ref 0, .ref 85, .int (nI (i + 6))] [] f2 a2 j2 := by
  obtain ⟨σ, τ, kb, tx, tn, T, c, r⟩ := hI
  have ix1 := ixL hn h31 (show i + 1 < n by omega)
  obtain ⟨v, f1, a1, j1, f2, a2, j2, h1, h2, h3⟩ := o_20 (sc := sc) (v1 := sc.2 (nI (i + 1))) c r
  refine ⟨f2, a2, j2, h3, ?_⟩
  simp only [q0_784, q0_785, q0_786, q0_787, q0_788, q0_789, q0_790, q0_793, q0_794, q0_795, q0_796, q0_797, q0_798, q0_799, q0_802, q0_1407, q0_1410, ix1, h1, h2, zCall_some, Option.toList, List.cons_append, List.nil_append, zb_0, zb_1, zem, z01, z11, nI_add, ↓reduceIte, not_true_eq_false, not_false_eq_true, n0T, n1F, n11T, true_or, or_true, false_or]
theorem l_21 {sc : Int32 × (Int32 → Int32)} {f : zF} {a : zA} {j : zJ} {i n : Nat} (hn : sc.1 = nI n) (h31 : n < 2 ^ 31) (hi : i + 6 ≤ n) (hI : Iv f a j) : ∃ (f2 : zF) (a2 : zA) (j2 : zJ), Iv f2 a2 j2 ∧ rn sc (cf sc 8) 0 807 [.ref 999, .ref 0, .ref 85, .int (nI i)] [] f a j = rn sc (cf sc 8) 0 18 [.ref 999, .ref 0, .ref 85, .int (nI (i + 6))] [] f2 a2 j2 := by
  obtain ⟨σ, τ, kb, tx, tn, T, c, r⟩ := hI
  have ix1 := ixL hn h31 (show i + 1 < n by omega)
  have ix2 := ixL hn h31 (show i + 2 < n by omega)
  have ix3 := ixL hn h31 (show i + 3 < n by omega)
  obtain ⟨v, f1, a1, j1, f2, a2, j2, h1, h2, h3⟩ := o_21 (sc := sc) (v1 := sc.2 (nI (i + 1))) (v2 := sc.2 (nI (i + 2))) (v3 := sc.2 (nI (i + 3))) c r
  refine ⟨f2, a2, j2, h3, ?_⟩
  simp only [q0_807, q0_808, q0_809, q0_810, q0_811, q0_812, q0_813, q0_814, q0_815, q0_816, q0_817, q0_818, q0_819, q0_820, q0_821, q0_822, q0_823, q0_826, q0_827, q0_828, q0_829, q0_830, q0_831, q0_832, q0_833, q0_834, q0_835, q0_836, q0_837, q0_838, q0_839, q0_840, q0_841, q0_842, q0_845, q0_1407, q0_1410, ix1, ix2, ix3, h1, h2, zCall_some, Option.toList, List.cons_append, List.nil_append, zb_0, zb_1, zem, z01, z11, nI_add, ↓reduceIte, not_true_eq_false, not_false_eq_true, n0T, n1F, n11T, true_or, or_true, false_or]
theorem l_22 {sc : Int32 × (Int32 → Int32)} {f : zF} {a : zA} {j : zJ} {i n : Nat} (hn : sc.1 = nI n) (h31 : n < 2 ^ 31) (hi : i + 6 ≤ n) (hI : Iv f a j) : ∃ (f2 : zF) (a2 : zA) (j2 : zJ), Iv f2 a2 j2 ∧ rn sc (cf sc 8) 0 850 [.ref 999, .ref 0, .ref 85, .int (nI i)] [] f a j = rn sc (cf sc 8) 0 18 [.ref 999, .ref 0, .ref 85, .int (nI (i + 6))] [] f2 a2 j2 := by
  obtain ⟨σ, τ, kb, tx, tn, T, c, r⟩ := hI
  have ix1 := ixL hn h31 (show i + 1 < n by omega)
  obtain ⟨v, f1, a1, j1, f2, a2, j2, h1, h2, h3⟩ := o_22 (sc := sc) (v1 := sc.2 (nI (i + 1))) c r
  refine ⟨f2, a2, j2, h3, ?_⟩
  simp only [q0_850, q0_851, q0_852, q0_853, q0_854, q0_855, q0_856, q0_859, q0_860, q0_861, q0_862, q0_863, q0_864, q0_865, q0_868, q0_1407, q0_1410, ix1, h1, h2, zCall_some, Option.toList, List.cons_append, List.nil_append, zb_0, zb_1, zem, z01, z11, nI_add, ↓reduceIte, not_true_eq_false, not_false_eq_true, n0T, n1F, n11T, true_or, or_true, false_or]
theorem l_23 {sc : Int32 × (Int32 → Int32)} {f : zF} {a : zA} {j : zJ} {i n : Nat} (hn : sc.1 = nI n) (h31 : n < 2 ^ 31) (hi : i + 6 ≤ n) (hI : Iv f a j) : ∃ (f2 : zF) (a2 : zA) (j2 : zJ), Iv f2 a2 j2 ∧ rn sc (cf sc 8) 0 873 [.ref 999, .ref 0, .ref 85, .int (nI i)] [] f a j = rn sc (cf sc 8) 0 18 [.ref 999, .ref 0, .ref 85, .int (nI (i + 6))] [] f2 a2 j2 := by
  obtain ⟨σ, τ, kb, tx, tn, T, c, r⟩ := hI
  have ix1 := ixL hn h31 (show i + 1 < n by omega)
  obtain ⟨v, f1, a1, j1, f2, a2, j2, h1, h2, h3⟩ := o_23 (sc := sc) (v1 := sc.2 (nI (i + 1))) c r
  refine ⟨f2, a2, j2, h3, ?_⟩
  simp only [q0_873, q0_874, q0_875, q0_876, q0_877, q0_878, q0_879, q0_882, q0_883, q0_884, q0_885, q0_886, q0_887, q0_888, q0_891, q0_1407, q0_1410, ix1, h1, h2, zCall_some, Option.toList, List.cons_append, List.nil_append, zb_0, zb_1, zem, z01, z11, nI_add, ↓reduceIte, not_true_eq_false, not_false_eq_true, n0T, n1F, n11T, true_or, or_true, false_or]
theorem l_24 {sc : Int32 × (Int32 → Int32)} {f : zF} {a : zA} {j : zJ} {i n : Nat} (hn : sc.1 = nI n) (h31 : n < 2 ^ 31) (hi : i + 6 ≤ n) (hI : Iv f a j) : ∃ (f2 : zF) (a2 : zA) (j2 : zJ), Iv f2 a2 j2 ∧ rn sc (cf sc 8) 0 896 [.ref 999, .ref 0, .ref 85, .int (nI i)] [] f a j = rn sc (cf sc 8) 0 18 [.ref 999, .ref 0, .ref 85, .int (nI (i + 6))] [] f2 a2 j2 := by
  obtain ⟨σ, τ, kb, tx, tn, T, c, r⟩ := hI
  have ix1 := ixL hn h31 (show i + 1 < n by omega)
  have ix2 := ixL hn h31 (show i + 2 < n by omega)
  obtain ⟨v, f1, a1, j1, f2, a2, j2, h1, h2, h3⟩ := o_24 (sc := sc) (v1 := sc.2 (nI (i + 1))) (v2 := sc.2 (nI (i + 2))) c r
  refine ⟨f2, a2, j2, h3, ?_⟩
  simp only [q0_896, q0_897, q0_898, q0_899, q0_900, q0_901, q0_902, q0_903, q0_904, q0_905, q0_906, q0_907, q0_910, q0_911, q0_912, q0_913, q0_914, q0_915, q0_916, q0_917, q0_918, q0_919, q0_920, q0_921, q0_924, q0_1407, q0_1410, ix1, ix2, h1, h2, zCall_some, Option.toList, List.cons_append, List.nil_append, zb_0, zb_1, zem, z01, z11, nI_add, ↓reduceIte, not_true_eq_false, not_false_eq_true, n0T, n1F, n11T, true_or, or_true, false_or]
theorem l_25 {sc : Int32 × (Int32 → Int32)} {f : zF} {a : zA} {j : zJ} {i n : Nat} (hn : sc.1 = nI n) (h31 : n < 2 ^ 31) (hi : i + 6 ≤ n) (hI : Iv f a j) : ∃ (f2 : zF) (a2 : zA) (j2 : zJ), Iv f2 a2 j2 ∧ rn sc (cf sc 8) 0 929 [.ref 999, .ref 0, .ref 85, .int (nI i)] [] f a j = rn sc (cf sc 8) 0 18 [.ref 999, .ref 0, .ref 85, .int (nI (i + 6))] [] f2 a2 j2 := by
  obtain ⟨σ, τ, kb, tx, tn, T, c, r⟩ := hI
  have ix1 := ixL hn h31 (show i + 1 < n by omega)
  obtain ⟨v, f1, a1, j1, f2, a2, j2, h1, h2, h3⟩ := o_25 (sc := sc) (v1 := sc.2 (nI (i + 1))) c r
  refine ⟨f2, a2, j2, h3, ?_⟩
  simp only [q0_929, q0_930, q0_931, q0_932, q0_933, q0_934, q0_935, q0_938, q0_939, q0_940, q0_941, q0_942, q0_943, q0_944, q0_947, q0_1407, q0_1410, ix1, h1, h2, zCall_some, Option.toList, List.cons_append, List.nil_append, zb_0, zb_1, zem, z01, z11, nI_add, ↓reduceIte, not_true_eq_false, not_false_eq_true, n0T, n1F, n11T, true_or, or_true, false_or]
theorem l_26 {sc : Int32 × (Int32 → Int32)} {f : zF} {a : zA} {j : zJ} {i n : Nat} (hn : sc.1 = nI n) (h31 : n < 2 ^ 31) (hi : i + 6 ≤ n) (hI : Iv f a j) : ∃ (f2 : zF) (a2 : zA) (j2 : zJ), Iv f2 a2 j2 ∧ rn sc (cf sc 8) 0 952 [.ref 999, .ref 0, .ref 85, .int (nI i)] [] f a j = rn sc (cf sc 8) 0 18 [.ref 999, .ref 0, .ref 85, .int (nI (i + 6))] [] f2 a2 j2 := by
  obtain ⟨σ, τ, kb, tx, tn, T, c, r⟩ := hI
  have ix1 := ixL hn h31 (show i + 1 < n by omega)
  have ix2 := ixL hn h31 (show i + 2 < n by omega)
  obtain ⟨v, f1, a1, j1, f2, a2, j2, h1, h2, h3⟩ := o_26 (sc := sc) (v1 := sc.2 (nI (i + 1))) (v2 := sc.2 (nI (i + 2))) c r
  refine ⟨f2, a2, j2, h3, ?_⟩
  simp only [q0_952, q0_953, q0_954, q0_955, q0_956, q0_957, q0_958, q0_959, q0_960, q0_961, q0_962, q0_963, q0_966, q0_967, q0_968, q0_969, q0_970, q0_971, q0_972, q0_973, q0_974, q0_975, q0_976, q0_977, q0_980, q0_981, q0_1407, q0_1410, ix1, ix2, h1, h2, lgc, zCall_some, Option.toList, List.cons_append, List.nil_append, zb_0, zb_1, zem, z01, z11, nI_add, ↓reduceIte, not_true_eq_false, not_false_eq_true, n0T, n1F, n11T, true_or, or_true, false_or]
theorem l_27 {sc : Int32 × (Int32 → Int32)} {f : zF} {a : zA} {j : zJ} {i n : Nat} (hn : sc.1 = nI n) (h31 : n < 2 ^ 31) (hi : i + 6 ≤ n) (hI : Iv f a j) : ∃ (f2 : zF) (a2 : zA) (j2 : zJ), Iv f2 a2 j2 ∧ rn sc (cf sc 8) 0 986 [.ref 999, .ref 0, .ref 85, .int (nI i)] [] f a j = rn sc (cf sc 8) 0 18 [.ref 999, .ref 0, .ref 85, .int (nI (i + 6))] [] f2 a2 j2 := by
  obtain ⟨σ, τ, kb, tx, tn, T, c, r⟩ := hI
  have ix1 := ixL hn h31 (show i + 1 < n by omega)
  obtain ⟨v, f1, a1, j1, f2, a2, j2, h1, h2, h3⟩ := o_27 (sc := sc) (v1 := sc.2 (nI (i + 1))) c r
  refine ⟨f2, a2, j2, h3, ?_⟩
  simp only [q0_986, q0_987, q0_988, q0_989, q0_990, q0_991, q0_992, q0_995, q0_996, q0_997, q0_998, q0_999, q0_1000, q0_1001, q0_1004, q0_1005, q0_1407, q0_1410, ix1, h1, h2, lgc, zCall_some, Option.toList, List.cons_append, List.nil_append, zb_0, zb_1, zem, z01, z11, nI_add, ↓reduceIte, not_true_eq_false, not_false_eq_true, n0T, n1F, n11T, true_or, or_true, false_or]
theorem l_28 {sc : Int32 × (Int32 → Int32)} {f : zF} {a : zA} {j : zJ} {i n : Nat} (hn : sc.1 = nI n) (h31 : n < 2 ^ 31) (hi : i + 6 ≤ n) (hI : Iv f a j) : ∃ (f2 : zF) (a2 : zA) (j2 : zJ), Iv f2 a2 j2 ∧ rn sc (cf sc 8) 0 1010 [.ref 999, .ref 0, .ref 85, .int (nI i)] [] f a j = rn sc (cf sc 8) 0 18 [.ref 999, .ref 0, .ref 85, .int (nI (i + 6))] [] f2 a2 j2 := by
  obtain ⟨σ, τ, kb, tx, tn, T, c, r⟩ := hI
  have ix1 := ixL hn h31 (show i + 1 < n by omega)
  have ix2 := ixL hn h31 (show i + 2 < n by omega)
  obtain ⟨v, f1, a1, j1, f2, a2, j2, h1, h2, h3⟩ := o_28 (sc := sc) (v1 := sc.2 (nI (i + 1))) (v2 := sc.2 (nI (i + 2))) c r
  refine ⟨f2, a2, j2, h3, ?_⟩
  simp only [q0_1010, q0_1011, q0_1012, q0_1013, q0_1014, q0_1015, q0_1016, q0_1017, q0_1018, q0_1019, q0_1020, q0_1021, q0_1024, q0_1025, q0_1026, q0_1027, q0_1028, q0_1029, q0_1030, q0_1031, q0_1032, q0_1033, q0_1034, q0_1035, q0_1038, q0_1407, q0_1410, ix1, ix2, h1, h2, zCall_some, Option.toList, List.cons_append, List.nil_append, zb_0, zb_1, zem, z01, z11, nI_add, ↓reduceIte, not_true_eq_false, not_false_eq_true, n0T, n1F, n11T, true_or, or_true, false_or]
theorem l_29 {sc : Int32 × (Int32 → Int32)} {f : zF} {a : zA} {j : zJ} {i n : Nat} (hn : sc.1 = nI n) (h31 : n < 2 ^ 31) (hi : i + 6 ≤ n) (hI : Iv f a j) : ∃ (f2 : zF) (a2 : zA) (j2 : zJ), Iv f2 a2 j2 ∧ rn sc (cf sc 8) 0 1043 [.ref 999, .ref 0, .ref 85, .int (nI i)] [] f a j = rn sc (cf sc 8) 0 18 [.ref 999, .ref 0, .ref 85, .int (nI (i + 6))] [] f2 a2 j2 := by
  obtain ⟨σ, τ, kb, tx, tn, T, c, r⟩ := hI
  have ix1 := ixL hn h31 (show i + 1 < n by omega)
  obtain ⟨v, f1, a1, j1, f2, a2, j2, h1, h2, h3⟩ := o_29 (sc := sc) (v1 := sc.2 (nI (i + 1))) c r
  refine ⟨f2, a2, j2, h3, ?_⟩
  simp only [q0_1043, q0_1044, q0_1045, q0_1046, q0_1047, q0_1048, q0_1049, q0_1052, q0_1053, q0_1054, q0_1055, q0_1056, q0_1057, q0_1058, q0_1061, q0_1407, q0_1410, ix1, h1, h2, zCall_some, Option.toList, List.cons_append, List.nil_append, zb_0, zb_1, zem, z01, z11, nI_add, ↓reduceIte, not_true_eq_false, not_false_eq_true, n0T, n1F, n11T, true_or, or_true, false_or]
theorem l_30 {sc : Int32 × (Int32 → Int32)} {f : zF} {a : zA} {j : zJ} {i n : Nat} (hn : sc.1 = nI n) (h31 : n < 2 ^ 31) (hi : i + 6 ≤ n) (hI : Iv f a j) : ∃ (f2 : zF) (a2 : zA) (j2 : zJ), Iv f2 a2 j2 ∧ rn sc (cf sc 8) 0 1066 [.ref 999, .ref 0, .ref 85, .int (nI i)] [] f a j = rn sc (cf sc 8) 0 18 [.ref 999, .ref 0, .ref 85, .int (nI (i + 6))] [] f2 a2 j2 := by
  obtain ⟨σ, τ, kb, tx, tn, T, c, r⟩ := hI
  have ix1 := ixL hn h31 (show i + 1 < n by omega)
  have ix2 := ixL hn h31 (show i + 2 < n by omega)
  obtain ⟨v, f1, a1, j1, f2, a2, j2, h1, h2, h3⟩ := o_30 (sc := sc) (v1 := sc.2 (nI (i + 1))) (v2 := sc.2 (nI (i + 2))) c r
  refine ⟨f2, a2, j2, h3, ?_⟩
  simp only [q0_1066, q0_1067, q0_1068, q0_1069, q0_1070, q0_1071, q0_1072, q0_1073, q0_1074, q0_1075, q0_1076, q0_1077, q0_1080, q0_1081, q0_1082, q0_1083, q0_1084, q0_1085, q0_1086, q0_1087, q0_1088, q0_1089, q0_1090, q0_1091, q0_1094, q0_1407, q0_1410, ix1, ix2, h1, h2, zCall_some, Option.toList, List.cons_append, List.nil_append, zb_0, zb_1, zem, z01, z11, nI_add, ↓reduceIte, not_true_eq_false, not_false_eq_true, n0T, n1F, n11T, true_or, or_true, false_or]
theorem l_31 {sc : Int32 × (Int32 → Int32)} {f : zF} {a : zA} {j : zJ} {i n : Nat} (hn : sc.1 = nI n) (h31 : n < 2 ^ 31) (hi : i + 6 ≤ n) (hI : Iv f a j) : ∃ (f2 : zF) (a2 : zA) (j2 : zJ), Iv f2 a2 j2 ∧ rn sc (cf sc 8) 0 1099 [.ref 999, .ref 0, .ref 85, .int (nI i)] [] f a j = rn sc (cf sc 8) 0 18 [.ref 999, .ref 0, .ref 85, .int (nI (i + 6))] [] f2 a2 j2 := by
  obtain ⟨σ, τ, kb, tx, tn, T, c, r⟩ := hI
  obtain ⟨v, f1, a1, j1, f2, a2, j2, h1, h2, h3⟩ := o_31 (sc := sc)  c r
  refine ⟨f2, a2, j2, h3, ?_⟩
  simp only [q0_1099, q0_1100, q0_1103, q0_1104, q0_1107, q0_1407, q0_1410, h1, h2, zCall_some, Option.toList, List.cons_append, List.nil_append, zb_0, zb_1, zem, z01, z11, nI_add, ↓reduceIte, not_true_eq_false, not_false_eq_true, n0T, n1F, n11T, true_or, or_true, false_or]
theorem l_32 {sc : Int32 × (Int32 → Int32)} {f : zF} {a : zA} {j : zJ} {i n : Nat} (hn : sc.1 = nI n) (h31 : n < 2 ^ 31) (hi : i + 6 ≤ n) (hI : Iv f a j) : ∃ (f2 : zF) (a2 : zA) (j2 : zJ), Iv f2 a2 j2 ∧ rn sc (cf sc 8) 0 1112 [.ref 999, .ref 0, .ref 85, .int (nI i)] [] f a j = rn sc (cf sc 8) 0 18 [.ref 999, .ref 0, .ref 85, .int (nI (i + 6))] [] f2 a2 j2 := by
  obtain ⟨σ, τ, kb, tx, tn, T, c, r⟩ := hI
  have ix1 := ixL hn h31 (show i + 1 < n by omega)
  have ix2 := ixL hn h31 (show i + 2 < n by omega)
  obtain ⟨v, f1, a1, j1, f2, a2, j2, h1, h2, h3⟩ := o_32 (sc := sc) (v1 := sc.2 (nI (i + 1))) (v2 := sc.2 (nI (i + 2))) c r
  refine ⟨f2, a2, j2, h3, ?_⟩
  simp only [q0_1112, q0_1113, q0_1114, q0_1115, q0_1116, q0_1117, q0_1118, q0_1119, q0_1120, q0_1121, q0_1122, q0_1123, q0_1126, q0_1127, q0_1128, q0_1129, q0_1130, q0_1131, q0_1132, q0_1133, q0_1134, q0_1135, q0_1136, q0_1137, q0_1140, q0_1407, q0_1410, ix1, ix2, h1, h2, zCall_some, Option.toList, List.cons_append, List.nil_append, zb_0, zb_1, zem, z01, z11, nI_add, ↓reduceIte, not_true_eq_false, not_false_eq_true, n0T, n1F, n11T, true_or, or_true, false_or]
theorem l_33 {sc : Int32 × (Int32 → Int32)} {f : zF} {a : zA} {j : zJ} {i n : Nat} (hn : sc.1 = nI n) (h31 : n < 2 ^ 31) (hi : i + 6 ≤ n) (hI : Iv f a j) : ∃ (f2 : zF) (a2 : zA) (j2 : zJ), Iv f2 a2 j2 ∧ rn sc (cf sc 8) 0 1145 [.ref 999, .ref 0, .ref 85, .int (nI i)] [] f a j = rn sc (cf sc 8) 0 18 [.ref 999, .ref 0, .ref 85, .int (nI (i + 6))] [] f2 a2 j2 := by
  obtain ⟨σ, τ, kb, tx, tn, T, c, r⟩ := hI
  obtain ⟨v, f1, a1, j1, f2, a2, j2, h1, h2, h3⟩ := o_33 (sc := sc)  c r
  refine ⟨f2, a2, j2, h3, ?_⟩
  simp only [q0_1145, q0_1146, q0_1149, q0_1150, q0_1153, q0_1407, q0_1410, h1, h2, zCall_some, Option.toList, List.cons_append, List.nil_append, zb_0, zb_1, zem, z01, z11, nI_add, ↓reduceIte, not_true_eq_false, not_false_eq_true, n0T, n1F, n11T, true_or, or_true, false_or]
theorem l_34 {sc : Int32 × (Int32 → Int32)} {f : zF} {a : zA} {j : zJ} {i n : Nat} (hn : sc.1 = nI n) (h31 : n < 2 ^ 31) (hi : i + 6 ≤ n) (hI : Iv f a j) : ∃ (f2 : zF) (a2 : zA) (j2 : zJ), Iv f2 a2 j2 ∧ rn sc (cf sc 8) 0 1158 [.ref 999, .ref 0, .ref 85, .int (nI i)] [] f a j = rn sc (cf sc 8) 0 18 [.ref 999, .ref 0, .ref 85, .int (nI (i + 6))] [] f2 a2 j2 := by
  obtain ⟨σ, τ, kb, tx, tn, T, c, r⟩ := hI
  obtain ⟨v, f1, a1, j1, f2, a2, j2, h1, h2, h3⟩ := o_34 (sc := sc)  c r
  refine ⟨f2, a2, j2, h3, ?_⟩
  simp only [q0_1158, q0_1159, q0_1162, q0_1163, q0_1166, q0_1407, q0_1410, h1, h2, zCall_some, Option.toList, List.cons_append, List.nil_append, zb_0, zb_1, zem, z01, z11, nI_add, ↓reduceIte, not_true_eq_false, not_false_eq_true, n0T, n1F, n11T, true_or, or_true, false_or]
theorem l_35 {sc : Int32 × (Int32 → Int32)} {f : zF} {a : zA} {j : zJ} {i n : Nat} (hn : sc.1 = nI n) (h31 : n < 2 ^ 31) (hi : i + 6 ≤ n) (hI : Iv f a j) : ∃ (f2 : zF) (a2 : zA) (j2 : zJ), Iv f2 a2 j2 ∧ rn sc (cf sc 8) 0 1171 [.ref 999, .ref 0, .ref 85, .int (nI i)] [] f a j = rn sc (cf sc 8) 0 18 [.ref 999, .ref 0, .ref 85, .int (nI (i + 6))] [] f2 a2 j2 := by
  obtain ⟨σ, τ, kb, tx, tn, T, c, r⟩ := hI
  have ix1 := ixL hn h31 (show i + 1 < n by omega)
  obtain ⟨v, f1, a1, j1, f2, a2, j2, h1, h2, h3⟩ := o_35 (sc := sc) (v1 := sc.2 (nI (i + 1))) c r
  refine ⟨f2, a2, j2, h3, ?_⟩
  simp only [q0_1171, q0_1172, q0_1173, q0_1174, q0_1175, q0_1176, q0_1177, q0_1180, q0_1181, q0_1182, q0_1183, q0_1184, q0_1185, q0_1186, q0_1189, q0_1407, q0_1410, ix1, h1, h2, zCall_some, Option.toList, List.cons_append, List.nil_append, zb_0, zb_1, zem, z01, z11, nI_add, ↓reduceIte, not_true_eq_false, not_false_eq_true, n0T, n1F, n11T, true_or, or_true, false_or]
theorem l_36 {sc : Int32 × (Int32 → Int32)} {f : zF} {a : zA} {j : zJ} {i n : Nat} (hn : sc.1 = nI n) (h31 : n < 2 ^ 31) (hi : i + 6 ≤ n) (hI : Iv f a j) : ∃ (f2 : zF) (a2 : zA) (j2 : zJ), Iv f2 a2 j2 ∧ rn sc (cf sc 8) 0 1194 [.ref 999, .ref 0, .ref 85, .int (nI i)] [] f a j = rn sc (cf sc 8) 0 18 [.ref 999, .ref 0, .ref 85, .int (nI (i + 6))] [] f2 a2 j2 := by
  obtain ⟨σ, τ, kb, tx, tn, T, c, r⟩ := hI
  have ix1 := ixL hn h31 (show i + 1 < n by omega)
  have ix2 := ixL hn h31 (show i + 2 < n by omega)
  have ix3 := ixL hn h31 (show i + 3 < n by omega)
  obtain ⟨v, f1, a1, j1, f2, a2, j2, h1, h2, h3⟩ := o_36 (sc := sc) (v1 := sc.2 (nI (i + 1))) (v2 := sc.2 (nI (i + 2))) (v3 := sc.2 (nI (i + 3))) c r
  refine ⟨f2, a2, j2, h3, ?_⟩
  simp only [q0_1194, q0_1195, q0_1196, q0_1197, q0_1198, q0_1199, q0_1200, q0_1201, q0_1202, q0_1203, q0_1204, q0_1205, q0_1206, q0_1207, q0_1208, q0_1209, q0_1210, q0_1213, q0_1214, q0_1215, q0_1216, q0_1217, q0_1218, q0_1219, q0_1220, q0_1221, q0_1222, q0_1223, q0_1224, q0_1225, q0_1226, q0_1227, q0_1228, q0_1229, q0_1232, q0_1407, q0_1410, ix1, ix2, ix3, h1, h2, zCall_some, Option.toList, List.cons_append, List.nil_append, zb_0, zb_1, zem, z01, z11, nI_add, ↓reduceIte, not_true_eq_false, not_false_eq_true, n0T, n1F, n11T, true_or, or_true, false_or]
theorem l_37 {sc : Int32 × (Int32 → Int32)} {f : zF} {a : zA} {j : zJ} {i n : Nat} (hn : sc.1 = nI n) (h31 : n < 2 ^ 31) (hi : i + 6 ≤ n) (hI : Iv f a j) : ∃ (f2 : zF) (a2 : zA) (j2 : zJ), Iv f2 a2 j2 ∧ rn sc (cf sc 8) 0 1237 [.ref 999, .ref 0, .ref 85, .int (nI i)] [] f a j = rn sc (cf sc 8) 0 18 [.ref 999, .ref 0, .ref 85, .int (nI (i + 6))] [] f2 a2 j2 := by
  obtain ⟨σ, τ, kb, tx, tn, T, c, r⟩ := hI
  have ix1 := ixL hn h31 (show i + 1 < n by omega)
  have ix2 := ixL hn h31 (show i + 2 < n by omega)
  have ix3 := ixL hn h31 (show i + 3 < n by omega)
  have ix4 := ixL hn h31 (show i + 4 < n by omega)
  obtain ⟨v, f1, a1, j1, f2, a2, j2, h1, h2, h3⟩ := o_37 (sc := sc) (v1 := sc.2 (nI (i + 1))) (v2 := sc.2 (nI (i + 2))) (v3 := ((sc.2 (nI (i + 3))).toInt64 <<< ((nI 32).toInt64 &&& 63)) ||| ((sc.2 (nI (i + 4))).toInt64 &&& 4294967295)) c r
  refine ⟨f2, a2, j2, h3, ?_⟩
  simp only [q0_1237, q0_1238, q0_1239, q0_1240, q0_1241, q0_1242, q0_1243, q0_1244, q0_1245, q0_1246, q0_1247, q0_1248, q0_1249, q0_1250, q0_1251, q0_1252, q0_1253, q0_1254, q0_1256, q0_1257, q0_1258, q0_1259, q0_1260, q0_1261, q0_1262, q0_1263, q0_1266, q0_1267, q0_1268, q0_1271, q0_1272, q0_1273, q0_1274, q0_1275, q0_1276, q0_1277, q0_1278, q0_1279, q0_1280, q0_1281, q0_1282, q0_1283, q0_1284, q0_1285, q0_1286, q0_1287, q0_1288, q0_1290, q0_1291, q0_1292, q0_1293, q0_1294, q0_1295, q0_1296, q0_1297, q0_1300, q0_1301, q0_1302, q0_1305, q0_1407, q0_1410, ix1, ix2, ix3, ix4, h1, h2, zCall_some, Option.toList, List.cons_append, List.nil_append, zb_0, zb_1, zem, z01, z11, nI_add, ↓reduceIte, not_true_eq_false, not_false_eq_true, n0T, n1F, n11T, true_or, or_true, false_or]
theorem l_38 {sc : Int32 × (Int32 → Int32)} {f : zF} {a : zA} {j : zJ} {i n : Nat} (hn : sc.1 = nI n) (h31 : n < 2 ^ 31) (hi : i + 6 ≤ n) (hI : Iv f a j) : ∃ (f2 : zF) (a2 : zA) (j2 : zJ), Iv f2 a2 j2 ∧ rn sc (cf sc 8) 0 1310 [.ref 999, .ref 0, .ref 85, .int (nI i)] [] f a j = rn sc (cf sc 8) 0 18 [.ref 999, .ref 0, .ref 85, .int (nI (i + 6))] [] f2 a2 j2 := by
  obtain ⟨σ, τ, kb, tx, tn, T, c, r⟩ := hI
  have ix1 := ixL hn h31 (show i + 1 < n by omega)
  have ix2 := ixL hn h31 (show i + 2 < n by omega)
  obtain ⟨v, f1, a1, j1, f2, a2, j2, h1, h2, h3⟩ := o_38 (sc := sc) (v1 := sc.2 (nI (i + 1))) (v2 := sc.2 (nI (i + 2))) c r
  refine ⟨f2, a2, j2, h3, ?_⟩
  simp only [q0_1310, q0_1311, q0_1312, q0_1313, q0_1314, q0_1315, q0_1316, q0_1317, q0_1318, q0_1319, q0_1320, q0_1321, q0_1324, q0_1325, q0_1326, q0_1327, q0_1328, q0_1329, q0_1330, q0_1331, q0_1332, q0_1333, q0_1334, q0_1335, q0_1338, q0_1339, q0_1407, q0_1410, ix1, ix2, h1, h2, lgc, zCall_some, Option.toList, List.cons_append, List.nil_append, zb_0, zb_1, zem, z01, z11, nI_add, ↓reduceIte, not_true_eq_false, not_false_eq_true, n0T, n1F, n11T, true_or, or_true, false_or]
theorem l_39 {sc : Int32 × (Int32 → Int32)} {f : zF} {a : zA} {j : zJ} {i n : Nat} (hn : sc.1 = nI n) (h31 : n < 2 ^ 31) (hi : i + 6 ≤ n) (hI : Iv f a j) : ∃ (f2 : zF) (a2 : zA) (j2 : zJ), Iv f2 a2 j2 ∧ rn sc (cf sc 8) 0 1344 [.ref 999, .ref 0, .ref 85, .int (nI i)] [] f a j = rn sc (cf sc 8) 0 18 [.ref 999, .ref 0, .ref 85, .int (nI (i + 6))] [] f2 a2 j2 := by
  obtain ⟨σ, τ, kb, tx, tn, T, c, r⟩ := hI
  have ix1 := ixL hn h31 (show i + 1 < n by omega)
  have ix2 := ixL hn h31 (show i + 2 < n by omega)
  have ix3 := ixL hn h31 (show i + 3 < n by omega)
  have ix4 := ixL hn h31 (show i + 4 < n by omega)
  have ix5 := ixL hn h31 (show i + 5 < n by omega)
  obtain ⟨v, f1, a1, j1, f2, a2, j2, h1, h2, h3⟩ := o_39 (sc := sc) (v1 := sc.2 (nI (i + 1))) (v2 := sc.2 (nI (i + 2))) (v3 := sc.2 (nI (i + 3))) (v4 := sc.2 (nI (i + 4))) (v5 := sc.2 (nI (i + 5))) c r
  refine ⟨f2, a2, j2, h3, ?_⟩
  simp only [q0_1344, q0_1345, q0_1346, q0_1347, q0_1348, q0_1349, q0_1350, q0_1351, q0_1352, q0_1353, q0_1354, q0_1355, q0_1356, q0_1357, q0_1358, q0_1359, q0_1360, q0_1361, q0_1362, q0_1363, q0_1364, q0_1365, q0_1366, q0_1367, q0_1368, q0_1369, q0_1370, q0_1373, q0_1374, q0_1375, q0_1376, q0_1377, q0_1378, q0_1379, q0_1380, q0_1381, q0_1382, q0_1383, q0_1384, q0_1385, q0_1386, q0_1387, q0_1388, q0_1389, q0_1390, q0_1391, q0_1392, q0_1393, q0_1394, q0_1395, q0_1396, q0_1397, q0_1398, q0_1399, q0_1402, q0_1407, q0_1410, ix1, ix2, ix3, ix4, ix5, h1, h2, zCall_some, Option.toList, List.cons_append, List.nil_append, zb_0, zb_1, zem, z01, z11, nI_add, ↓reduceIte, not_true_eq_false, not_false_eq_true, n0T, n1F, n11T, true_or, or_true, false_or]
theorem l_end {sc : Int32 × (Int32 → Int32)} {f : zF} {a : zA} {j : zJ} {x : Int32} : rn sc (cf sc 8) 0 1413 [.ref 999, .ref 0, .ref 85, .int x] [] f a j = some (some (.int (nI 1)), f, a, j) := by
  simp only [q0_1413, q0_1414, zCall_some, Option.toList, List.cons_append, List.nil_append, zb_0, zb_1, zem, z01, z11, nI_add, ↓reduceIte, not_true_eq_false, not_false_eq_true, n0T, n1F, n11T, true_or, or_true, false_or]
theorem l_skip {sc : Int32 × (Int32 → Int32)} {f : zF} {a : zA} {j : zJ} {i : Nat} : rn sc (cf sc 8) 0 1407 [.ref 999, .ref 0, .ref 85, .int (nI i)] [] f a j = rn sc (cf sc 8) 0 18 [.ref 999, .ref 0, .ref 85, .int (nI (i + 6))] [] f a j := by
  simp only [q0_1407, q0_1410, zCall_some, Option.toList, List.cons_append, List.nil_append, zb_0, zb_1, zem, z01, z11, nI_add, ↓reduceIte, not_true_eq_false, not_false_eq_true, n0T, n1F, n11T, true_or, or_true, false_or]
def LStep (sc : Int32 × (Int32 → Int32)) (i : Nat) (X : Option zR) : Prop := ∃ (f2 : zF) (a2 : zA) (j2 : zJ), Iv f2 a2 j2 ∧ X = rn sc (cf sc 8) 0 18 [.ref 999, .ref 0, .ref 85, .int (nI (i + 6))] [] f2 a2 j2
theorem LStep.ite {sc : Int32 × (Int32 → Int32)} {i : Nat} {c : Prop} [Decidable c] {X Z : Option zR} (h : LStep sc i X) (g : LStep sc i Z) : LStep sc i (if c then X else Z) := by
  by_cases q : c
  · rw [if_pos q]; exact h
  · rw [if_neg q]; exact g
set_option maxRecDepth 100000 in
theorem l_step {sc : Int32 × (Int32 → Int32)} {f : zF} {a : zA} {j : zJ} {i n : Nat} (hn : sc.1 = nI n) (h31 : n < 2 ^ 31) (hi : i + 6 ≤ n) (hI : Iv f a j) : LStep sc i (rn sc (cf sc 8) 0 27 [.ref 999, .ref 0, .ref 85, .int (nI i)] [] f a j) := by
  have ix0 := ixL hn h31 (show i < n by omega)
  simp only [q0_27, q0_28, q0_29, q0_30, q0_32, ix0, zCall_some, Option.toList, List.cons_append, List.nil_append, zb_0, zb_1, zem, z01, z11, nI_add, ↓reduceIte, not_true_eq_false, not_false_eq_true, n0T, n1F, n11T, true_or, or_true, false_or]
  rw [q0_33]
  exact LStep.ite (l_0 hn h31 hi hI) (LStep.ite (l_1 hn h31 hi hI) (LStep.ite (l_2 hn h31 hi hI) (LStep.ite (l_3 hn h31 hi hI) (LStep.ite (l_4 hn h31 hi hI) (LStep.ite (l_5 hn h31 hi hI) (LStep.ite (l_6 hn h31 hi hI) (LStep.ite (l_7 hn h31 hi hI) (LStep.ite (l_8 hn h31 hi hI) (LStep.ite (l_9 hn h31 hi hI) (LStep.ite (l_10 hn h31 hi hI) (LStep.ite (l_11 hn h31 hi hI) (LStep.ite (l_12 hn h31 hi hI) (LStep.ite (l_13 hn h31 hi hI) (LStep.ite (l_14 hn h31 hi hI) (LStep.ite (l_15 hn h31 hi hI) (LStep.ite (l_16 hn h31 hi hI) (LStep.ite (l_17 hn h31 hi hI) (LStep.ite (l_18 hn h31 hi hI) (LStep.ite (l_19 hn h31 hi hI) (LStep.ite (l_20 hn h31 hi hI) (LStep.ite (l_21 hn h31 hi hI) (LStep.ite (l_22 hn h31 hi hI) (LStep.ite (l_23 hn h31 hi hI) (LStep.ite (l_24 hn h31 hi hI) (LStep.ite (l_25 hn h31 hi hI) (LStep.ite (l_26 hn h31 hi hI) (LStep.ite (l_27 hn h31 hi hI) (LStep.ite (l_28 hn h31 hi hI) (LStep.ite (l_29 hn h31 hi hI) (LStep.ite (l_30 hn h31 hi hI) (LStep.ite (l_31 hn h31 hi hI) (LStep.ite (l_32 hn h31 hi hI) (LStep.ite (l_33 hn h31 hi hI) (LStep.ite (l_34 hn h31 hi hI) (LStep.ite (l_35 hn h31 hi hI) (LStep.ite (l_36 hn h31 hi hI) (LStep.ite (l_37 hn h31 hi hI) (LStep.ite (l_38 hn h31 hi hI) (LStep.ite (l_39 hn h31 hi hI) (⟨f, a, j, hI, l_skip⟩))))))))))))))))))))))))))))))))))))))))
theorem l_run {sc : Int32 × (Int32 → Int32)} {n : Nat} (hn : sc.1 = nI n) (h30 : n < 2 ^ 30) : ∀ (m i : Nat) (f : zF) (a : zA) (j : zJ), n ≤ i + m → i ≤ n → Iv f a j →
    ∃ (f2 : zF) (a2 : zA) (j2 : zJ), rn sc (cf sc 8) 0 18 [.ref 999, .ref 0, .ref 85, .int (nI i)] [] f a j = some (some (.int (nI 1)), f2, a2, j2) := by
  intro m
  induction m using Nat.strongRecOn with
  | ind m ih =>
    intro i f a j h1 h2 hI
    by_cases hi : i + 6 ≤ n
    · have hc : ¬ sc.1 - nI 6 < nI i := by
        rw [hn, pk_sub (show 6 ≤ n by omega)]
        exact nI_nlt (by omega) (by omega)
      obtain ⟨f2, a2, j2, g1, g2⟩ := l_step hn (by omega) hi hI
      simp only [q0_18, q0_19, q0_20, q0_21, q0_23, q0_24, hc, ↓reduceIte]
      rw [g2]
      exact ih (m - 6) (by omega) (i + 6) f2 a2 j2 (by omega) (by omega) g1
    · have hc : sc.1 - nI 6 < nI i := by
        rw [hn]
        rcases Nat.lt_or_ge n 6 with q | q
        · have h5 := pk_sneg (show 6 < 2 ^ 30 by omega) q
          exact Int32.lt_of_lt_of_le h5 (nI_pos' (by omega))
        · rw [pk_sub q]
          exact nI_lt (by omega) (by omega)
      exact ⟨f, a, j, by simp only [q0_18, q0_19, q0_20, q0_21, q0_23, q0_24, hc, ↓reduceIte]; exact l_end⟩
