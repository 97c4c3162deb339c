/-! ===== the class: what is small ===== -/
theorem m_isWithin {sc : Int32 × (Int32 → Int32)} {f : zF} {a : zA} {j : zJ} {d : Nat} {v lo hi : Int32} : cf sc (d + 1) 93 [.int v, .int lo, .int hi] f a j = some (some (.int (zb (¬ v < lo ∧ ¬ hi < v))), f, a, j) := by
  rw [en93]
  simp only [q93_0, q93_1, q93_2, q93_5, q93_6, q93_7, q93_10, q93_11, q93_14, q93_15, zCall_some, Option.toList, List.cons_append, List.nil_append, zb_0, zb_1, zem, z01, z11, nI_add, ↓reduceIte, not_true_eq_false, not_false_eq_true, n0T, n1F, n11T, true_or, or_true, false_or]
  unfold zb
  by_cases h1 : v < lo <;> by_cases h2 : hi < v <;> simp [h1, h2]
theorem bit_1 {x : Int32} : (x &&& nI 1 = nI 1) ↔ bt x 0 = true := by
  constructor
  · intro h
    have h1 := congrArg (fun z => bt z 0) h
    simp only [b_and] at h1
    have h2 : bt (nI 1) 0 = true := by decide
    rw [h2] at h1
    simpa using h1
  · intro h
    apply b_ext
    intro i hi
    rw [b_and]
    by_cases h0 : i = 0
    · subst h0; rw [h]; simp
    · have h2 : ∀ i, i < 32 → i ≠ 0 → bt (nI 1) i = false := by decide
      rw [h2 i hi h0]; simp
theorem bit_q {x : Int32} {q : Nat} (hq : q < 32) : ((x >>> (nI q &&& 31)) &&& nI 1 = nI 1) ↔ bt x q = true := by
  rw [bit_1, b_sshr q hq x (by omega)]
  simp [hq]
theorem m_isBit {sc : Int32 × (Int32 → Int32)} {f : zF} {a : zA} {j : zJ} {d : Nat} {x : Int32} {q : Nat} (hq : q < 32) : cf sc (d + 1) 95 [.int x, .int (nI q)] f a j = some (some (.int (zb (bt x q = true))), f, a, j) := by
  rw [en95]
  simp only [q95_0, q95_1, q95_2, q95_3, q95_4, q95_5, q95_6, q95_9, q95_10, q95_13, q95_14, zCall_some, Option.toList, List.cons_append, List.nil_append, zb_0, zb_1, zem, z01, z11, nI_add, ↓reduceIte, not_true_eq_false, not_false_eq_true, n0T, n1F, n11T, true_or, or_true, false_or, bit_q hq]
  unfold zb
  by_cases h1 : bt x q = true <;> simp [h1]
theorem m_canB {sc : Int32 × (Int32 → Int32)} {f : zF} {a : zA} {j : zJ} {d g : Nat} (hg : g < 8) : cf sc (d + 2) 94 [.int (nI g)] f a j = some (some (.int (nI 1)), f, a, j) := by
  have h1 : (¬ nI g < nI 0 ∧ ¬ nI 7 < nI g) = True := eq_true ⟨nI_nlt (by omega) (by omega), nI_nlt (by omega) (by omega)⟩
  rw [en94]
  simp only [q94_0, q94_1, q94_2, q94_4, q94_7, m_isWithin, h1, zb_t, zCall_some, Option.toList, List.cons_append, List.nil_append, zb_0, zb_1, zem, z01, z11, nI_add, ↓reduceIte, not_true_eq_false, not_false_eq_true, n0T, n1F, n11T, true_or, or_true, false_or]
theorem m_hoursOf {sc : Int32 × (Int32 → Int32)} {f : zF} {a : zA} {j : zJ} {d g : Nat} (hg : g < 8) : cf sc (d + 3) 43 [.ref 54, .int (nI g)] f a j = some (some (.int (a 59 (nI g))), f, a, j) := by
  have ix : zIx 21 59 (nI g) := ix59 hg
  rw [en43]
  simp only [q43_0, q43_1, q43_4, q43_7, q43_8, q43_11, q43_12, q43_13, q43_16, q43_17, m_canB hg, ix, zCall_some, Option.toList, List.cons_append, List.nil_append, zb_0, zb_1, zem, z01, z11, nI_add, ↓reduceIte, not_true_eq_false, not_false_eq_true, n0T, n1F, n11T, true_or, or_true, false_or]
theorem m_addHours {sc : Int32 × (Int32 → Int32)} {f : zF} {a : zA} {j : zJ} {d g : Nat} {h : Int32} (hg : g < 8) : cf sc (d + 3) 41 [.ref 54, .int (nI g), .int h] f a j = some (none, f, zuA a 59 (nI g) (a 59 (nI g) + h), j) := by
  have ix : zIx 21 59 (nI g) := ix59 hg
  rw [en41]
  simp only [q41_0, q41_1, q41_4, q41_7, q41_8, q41_11, q41_12, q41_13, q41_14, q41_15, q41_16, q41_17, m_canB hg, ix, zCall_some, Option.toList, List.cons_append, List.nil_append, zb_0, zb_1, zem, z01, z11, nI_add, ↓reduceIte, not_true_eq_false, not_false_eq_true, n0T, n1F, n11T, true_or, or_true, false_or]
