/-! ===== the class: addParts, allBits, bitsOn, giveHours ===== -/
theorem m_addParts {sc : Int32 × (Int32 → Int32)} {f : zF} {a : zA} {j : zJ} {d n : Nat} {x y : Nat → Nat} (hn : n ≤ 8) (hf : f 54 9 = nI n) (hx : ∀ g, g < n → a 59 (nI g) = nI (x g)) (hy : ∀ g, g < n → a 58 (nI g) = nI (y g)) :
    ∃ a' : zA, cf sc (d + 1) 37 [.ref 54] f a j = some (none, f, a', j) ∧ (∀ g, g < n → a' 59 (nI g) = nI (x g + y g)) ∧ (∀ g, n ≤ g → g < 8 → a' 59 (nI g) = a 59 (nI g)) ∧ ∀ k, k ≠ 59 → a' k = a k := by
  have key := zLoopP (n := n) (g := fun s : (Nat × zA) => rn sc (cf sc d) 37 2 [.ref 54, .int (nI s.1)] [] f s.2 j) (P := fun i s => s.1 = i ∧ (∀ g, g < n → s.2 59 (nI g) = nI (if g < i then x g + y g else x g)) ∧ (∀ g, n ≤ g → g < 8 → s.2 59 (nI g) = a 59 (nI g)) ∧ ∀ k, k ≠ 59 → s.2 k = a k) (by
    intro i s hi hP
    obtain ⟨i', a1⟩ := s
    obtain ⟨rfl, h1, h0, h2⟩ := hP
    dsimp only at h1 h0 h2 hi
    have c1 : ¬ nI n ≤ nI i' := nI_ge hi (by omega)
    have ix1 : zIx 21 59 (nI i') := ix59 (by omega)
    have ix2 : zIx 21 58 (nI i') := ix58 (by omega)
    have e1 : a1 59 (nI i') = nI (x i') := by rw [h1 i' hi, if_neg (by omega)]
    have e2 : a1 58 (nI i') = nI (y i') := by rw [h2 58 (by omega)]; exact hy i' hi
    refine ⟨(i' + 1, zuA a1 59 (nI i') (nI (x i' + y i'))), ⟨rfl, fun g hg => ?_, fun g g1 g2 => by dsimp only; rw [zuA_ni (nI_ne (by omega) (by omega) (by omega))]; exact h0 g g1 g2, fun k hk => (zuA_nk hk).trans (h2 k hk)⟩, ?_⟩
    · show zuA a1 59 (nI i') (nI (x i' + y i')) 59 (nI g) = _
      by_cases e : g = i'
      · rw [e, if_pos (by omega)]; exact zuA_eq
      · rw [zuA_ni (nI_ne (by omega) (by omega) e), h1 g hg]
        by_cases q : g < i'
        · rw [if_pos q, if_pos (by omega)]
        · rw [if_neg q, if_neg (by omega)]
    · dsimp only
      rw [q37_2]
      simp only [q37_0, q37_1, q37_3, q37_4, q37_7, q37_10, q37_11, q37_14, q37_15, q37_16, q37_17, q37_18, q37_21, q37_22, q37_23, q37_24, q37_25, q37_28, q37_31, hf, c1, ix1, ix2, e1, e2, zCall_some, Option.toList, List.cons_append, List.nil_append, zb_0, zb_1, zem, z01, z11, nI_add, ↓reduceIte, not_true_eq_false, not_false_eq_true, n0T, n1F, n11T, true_or, or_true, false_or]) (0, a) ⟨rfl, fun g hg => by rw [if_neg (by omega)]; exact hx g hg, fun _ _ _ => rfl, fun _ _ => rfl⟩
  obtain ⟨⟨i, a'⟩, ⟨rfl, h1, h0, h2⟩, e⟩ := key
  dsimp only at h1 h0 h2 e
  refine ⟨a', ?_, fun g hg => by rw [h1 g hg, if_pos hg], h0, h2⟩
  have c1 : nI i ≤ nI i := nI_le (Nat.le_refl _) (by omega)
  rw [en37, q37_0, q37_1]
  refine Eq.trans e ?_
  simp only [q37_2, q37_3, q37_4, q37_7, q37_31, hf, c1, zCall_some, Option.toList, List.cons_append, List.nil_append, zb_0, zb_1, zem, z01, z11, nI_add, ↓reduceIte, not_true_eq_false, not_false_eq_true, n0T, n1F, n11T, true_or, or_true, false_or]
theorem bt_all : ∀ n, n ≤ 8 → ∀ g, g < 32 → bt ((nI 1 <<< (nI n &&& 31)) - nI 1) g = decide (g < n) := by decide +kernel
theorem m_allBits {sc : Int32 × (Int32 → Int32)} {f : zF} {a : zA} {j : zJ} {d c : Nat} {σ : Nat → Nat} (hc : isC c) (hR : CR0 c σ f a) : cf sc (d + 1) 4 [.ref c] f a j = some (some (.int ((nI 1 <<< (nI (σ 0) &&& 31)) - nI 1)), f, a, j) := by
  rw [en4]
  simp only [q4_0, q4_1, q4_2, q4_5, q4_6, q4_7, q4_8, hc, hR.1, zCall_some, Option.toList, List.cons_append, List.nil_append, zb_0, zb_1, zem, z01, z11, nI_add, ↓reduceIte, not_true_eq_false, not_false_eq_true, n0T, n1F, n11T, true_or, or_true, false_or]
/-- bits of the FIELDS below n for which P holds -/
def btS (P : Nat → Bool) : Nat → Int32
  | 0 => nI 0
  | g + 1 => btS P g ||| (if P g = true then nI 1 <<< (nI g &&& 31) else nI 0)
theorem bt_one : ∀ g, g < 8 → ∀ i, i < 32 → bt (nI 1 <<< (nI g &&& 31)) i = decide (i = g) := by decide +kernel
theorem bt_zero (i : Nat) : bt (nI 0) i = false := b_0 i
theorem btS_bt (P : Nat → Bool) : ∀ n, n ≤ 8 → ∀ i, i < 32 → bt (btS P n) i = (decide (i < n) && P i)
  | 0, _, i, _ => by
    show bt (nI 0) i = _
    rw [bt_zero]; simp
  | n + 1, hn, i, hi => by
    show bt (btS P n ||| (if P n = true then nI 1 <<< (nI n &&& 31) else nI 0)) i = _
    rw [b_or, btS_bt P n (by omega) i hi]
    by_cases hp : P n = true
    · rw [if_pos hp, bt_one n (by omega) i hi]
      by_cases e : i = n
      · subst e; simp [hp]
      · have : (i < n) = (i < n + 1) := by apply propext; omega
        simp [e, this]
    · rw [if_neg hp, bt_zero]
      by_cases e : i = n
      · subst e; simp [hp]
      · have : (i < n) = (i < n + 1) := by apply propext; omega
        simp [this]
theorem m_bitsOn {sc : Int32 × (Int32 → Int32)} {f : zF} {a : zA} {j : zJ} {d c r : Nat} {σ : Nat → Nat} (hc : isC c) (hV : VR σ) (hR : CR0 c σ f a) (hr : r < 4) : cf sc (d + 1) 6 [.ref c, .int (nI r)] f a j = some (some (.int (btS (fun g => decide (σ (16 + g) = r)) (σ 0))), f, a, j) := by
  have hn := hV.1
  have key := zLoop (n := σ 0) (g := fun i => rn sc (cf sc d) 6 4 [.ref c, .int (nI r), .int (btS (fun g => decide (σ (16 + g) = r)) i), .int (nI i)] [] f a j) (by
    intro i hi
    have c1 : ¬ nI (σ 0) ≤ nI i := nI_ge hi (by omega)
    have ix3 : zIx 21 (c + 3) (nI i) := ixC3 hc (by omega)
    have h4 := (hV.2.2.1 i hi).1
    have e1 : (nI (σ (16 + i)) = nI r) = (σ (16 + i) = r) := propext (nI_eq (by omega) (by omega))
    rw [q6_4]
    show _ = rn sc (cf sc d) 6 4 [.ref c, .int (nI r), .int (btS (fun g => decide (σ (16 + g) = r)) i ||| (if decide (σ (16 + i) = r) = true then nI 1 <<< (nI i &&& 31) else nI 0)), .int (nI (i + 1))] [] f a j
    by_cases h : σ (16 + i) = r
    · simp only [q6_0, q6_1, q6_2, q6_3, q6_5, q6_6, q6_9, q6_12, q6_13, q6_14, q6_17, q6_18, q6_19, q6_20, q6_23, q6_24, q6_25, q6_26, q6_29, q6_30, q6_31, q6_32, q6_35, q6_38, q6_39, hc, hR.1, c1, ix3, (hR.2.2.2.1 i hi).1, e1, h, decide_true, zCall_some, Option.toList, List.cons_append, List.nil_append, zb_0, zb_1, zem, z01, z11, nI_add, ↓reduceIte, not_true_eq_false, not_false_eq_true, n0T, n1F, n11T, true_or, or_true, false_or]
    · simp only [q6_0, q6_1, q6_2, q6_3, q6_5, q6_6, q6_9, q6_12, q6_13, q6_14, q6_17, q6_18, q6_19, q6_20, q6_23, q6_24, q6_25, q6_26, q6_29, q6_30, q6_31, q6_32, q6_35, q6_38, q6_39, hc, hR.1, c1, ix3, (hR.2.2.2.1 i hi).1, e1, h, decide_false, Bool.false_eq_true, zCall_some, Option.toList, List.cons_append, List.nil_append, zb_0, zb_1, zem, z01, z11, nI_add, ↓reduceIte, not_true_eq_false, not_false_eq_true, n0T, n1F, n11T, true_or, or_true, false_or])
  rw [en6, q6_0, q6_1, q6_2, q6_3]
  refine Eq.trans (show _ = _ from key) ?_
  have c1 : nI (σ 0) ≤ nI (σ 0) := nI_le (Nat.le_refl _) (by omega)
  simp only [q6_4, q6_5, q6_6, q6_9, q6_38, q6_39, hc, hR.1, c1, zCall_some, Option.toList, List.cons_append, List.nil_append, zb_0, zb_1, zem, z01, z11, nI_add, ↓reduceIte, not_true_eq_false, not_false_eq_true, n0T, n1F, n11T, true_or, or_true, false_or]
theorem bt_no : ∀ i, i < 32 → bt (-1) i = true := b_m1
/-- bits of those that are there -/
theorem bt_pr {σ : Nat → Nat} (hV : VR σ) {c : Nat} {f : zF} {a : zA} (hR : CR0 c σ f a) {g : Nat} (hg : g < 32) : bt (((nI 1 <<< (nI (σ 0) &&& 31)) - nI 1) &&& (f c 5 ^^^ (-1))) g = prB σ g := by
  rw [b_and, b_xor, bt_all (σ 0) hV.1 g hg, bt_no g hg]
  unfold prB
  by_cases h : g < σ 0
  · rw [hR.2.1 g h]
    by_cases h2 : σ (32 + g) = 1 <;> simp [h, h2]
  · simp [h]
theorem nrB_at {σ : Nat → Nat} {i g : Nat} : (decide (g < σ 0) && decide (σ (16 + g) = σ (16 + i)) && prB σ g) = nrB σ i g := by
  unfold nrB prB
  by_cases h : g < σ 0 <;> by_cases h2 : σ (16 + g) = σ (16 + i) <;> simp [h, h2]
theorem anB_no {σ : Nat → Nat} {i : Nat} : ∀ n, anB σ i n = false → ∀ g, g < n → nrB σ i g = false
  | 0, _, g, hg => by omega
  | n + 1, h, g, hg => by
    have h1 : (anB σ i n || nrB σ i n) = false := h
    rw [Bool.or_eq_false_iff] at h1
    by_cases e : g = n
    · rw [e]; exact h1.2
    · exact anB_no n h1.1 g (by omega)
theorem anB_yes {σ : Nat → Nat} {i : Nat} : ∀ n, anB σ i n = true → ∃ g, g < n ∧ nrB σ i g = true
  | 0, h => by cases h
  | n + 1, h => by
    have h1 : (anB σ i n || nrB σ i n) = true := h
    rw [Bool.or_eq_true] at h1
    rcases h1 with h1 | h1
    · obtain ⟨g, q1, q2⟩ := anB_yes n h1
      exact ⟨g, by omega, q2⟩
    · exact ⟨n, by omega, h1⟩
theorem nr_zero {σ : Nat → Nat} (hV : VR σ) {i : Nat} {x : Int32} (hx : ∀ g, g < 32 → bt x g = nrB σ i g) : (x = 0) ↔ ¬ anB σ i (σ 0) = true := by
  constructor
  · intro h q
    obtain ⟨g, h1, h2⟩ := anB_yes _ q
    have h3 := hx g (by have := hV.1; omega)
    rw [h, b_0, h2] at h3
    cases h3
  · intro h
    apply b_ext
    intro g hg
    rw [hx g hg, b_0]
    by_cases q : g < σ 0
    · exact anB_no _ (by simpa using h) g q
    · unfold nrB prB; simp [q]
theorem toB_off {σ : Nat → Nat} {i g : Nat} (h : σ 0 ≤ g) : toB σ i g = false := by
  have h9 : ¬ g < σ 0 := by omega
  unfold toB nrB prB
  split <;> simp [h9]
