/-! ===== the class: what is small ===== -/
theorem m_isWithin {sc : Int32 × (Int32 → Int32)} {f : zF} {a : zA} {j : zJ} {d : Nat} {v lo hi : Int32} : cf sc (d + 1) 89 [.int v, .int lo, .int hi] f a j = some (some (.int (zb (¬ v < lo ∧ ¬ hi < v))), f, a, j) := by
  rw [en89]
  simp only [q89_0, q89_1, q89_2, q89_5, q89_6, q89_7, q89_10, q89_11, q89_14, q89_15, zCall_some, Option.toList, List.cons_append, List.nil_append, zb_0, zb_1, zem, z01, z11, nI_add, ↓reduceIte, not_true_eq_false, not_false_eq_true, n0T, n1F, n11T, true_or, or_true, false_or]
  unfold zb
  by_cases h1 : v < lo <;> by_cases h2 : hi < v <;> simp [h1, h2]
theorem bit_1 {x : Int32} : (x &&& nI 1 = nI 1) ↔ bt x 0 = true := by
  constructor
  · intro h
    have h1 := congrArg (fun z => bt z 0) h
    simp only [b_and] at h1
    have h2 : bt (nI 1) 0 = true := by decide
    rw [h2] at h1
    simpa using h1
  · intro h
    apply b_ext
    intro i hi
    rw [b_and]
    by_cases h0 : i = 0
    · subst h0; rw [h]; simp
    · have h2 : ∀ i, i < 32 → i ≠ 0 → bt (nI 1) i = false := by decide
      rw [h2 i hi h0]; simp
theorem bit_q {x : Int32} {q : Nat} (hq : q < 32) : ((x >>> (nI q &&& 31)) &&& nI 1 = nI 1) ↔ bt x q = true := by
  rw [bit_1, b_sshr q hq x (by omega)]
  simp [hq]
theorem m_isBit {sc : Int32 × (Int32 → Int32)} {f : zF} {a : zA} {j : zJ} {d : Nat} {x : Int32} {q : Nat} (hq : q < 32) : cf sc (d + 1) 90 [.int x, .int (nI q)] f a j = some (some (.int (zb (bt x q = true))), f, a, j) := by
  rw [en90]
  simp only [q90_0, q90_1, q90_2, q90_3, q90_4, q90_5, q90_6, q90_9, q90_10, q90_13, q90_14, zCall_some, Option.toList, List.cons_append, List.nil_append, zb_0, zb_1, zem, z01, z11, nI_add, ↓reduceIte, not_true_eq_false, not_false_eq_true, n0T, n1F, n11T, true_or, or_true, false_or, bit_q hq]
  unfold zb
  by_cases h1 : bt x q = true <;> simp [h1]
