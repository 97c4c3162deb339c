/-! ===== the class: parse, read ===== -/
theorem nmF_le (x : Nat) : nmF x ≤ 3 := by
  unfold nmF
  split
  · omega
  · split
    · omega
    · split <;> omega
theorem fdN_s (tx : Nat → Nat) (tn p k : Nat) : fdN tx tn p (k + 1) = if fdN tx tn p k = k ∧ dgA tx tn (p + k) = true then k + 1 else fdN tx tn p k := rfl
theorem fdN_le (tx : Nat → Nat) (tn p : Nat) : ∀ k, fdN tx tn p k ≤ k
  | 0 => Nat.le_refl _
  | k + 1 => by
    have := fdN_le tx tn p k
    rw [fdN_s]
    split <;> omega
theorem fdN_stop {tx : Nat → Nat} {tn p i : Nat} (h : fdN tx tn p i = i) (hd : ¬ dgA tx tn (p + i) = true) : ∀ m, fdN tx tn p (i + 1 + m) = i
  | 0 => by
    show fdN tx tn p (i + 1) = i
    rw [fdN_s, if_neg (fun q => hd q.2)]
    exact h
  | m + 1 => by
    have ih := fdN_stop h hd m
    rw [← Nat.add_assoc, fdN_s, if_neg (fun q => by have := q.1; omega)]
    exact ih
theorem dg_lt {tx : Nat → Nat} {tn p : Nat} (h : dgA tx tn p = true) : p < tn ∧ 48 ≤ tx p ∧ tx p ≤ 57 := of_decide_eq_true h
theorem m_nextDigit {sc : Int32 × (Int32 → Int32)} {f : zF} {a : zA} {j : zJ} {d tn p : Nat} {tx : Nat → Nat} (hT : TX tx tn f a) (hV : VX tx tn) (h5 : f 65 5 = nI p) (hd : dgA tx tn p = true) : cf sc (d + 1) 25 [.ref 65] f a j = some (some (.int (nI (tx p - 48))), zuF f 65 5 (nI (p + 1)), a, j) := by
  obtain ⟨t1, t2⟩ := hT
  obtain ⟨h1, h2, h3⟩ := dg_lt hd
  have h100 := hV.1
  have ix : zIx 20 66 (nI p) := ix66 (by omega)
  have e1 := t2 p h1
  have c1 : ¬ nI tn ≤ nI p := nI_ge h1 (by omega)
  have c2 : ¬ nI (tx p) < nI 48 := nI_nlt h2 (by omega)
  have c3 : nI (tx p) ≤ nI 57 := nI_le h3 (by omega)
  have es : nI (tx p) - nI 48 = nI (tx p - 48) := pk_sub h2
  rw [en25]
  simp only [q25_0, q25_1, q25_4, q25_5, q25_8, q25_11, q25_12, q25_15, q25_16, q25_19, q25_20, q25_23, q25_24, q25_25, q25_26, q25_28, q25_31, q25_32, q25_34, q25_37, q25_38, q25_39, q25_40, q25_41, q25_44, q25_45, q25_46, q25_49, q25_50, q25_52, q25_53, h5, t1, c1, ix, e1, c2, c3, es, zCall_some, Option.toList, List.cons_append, List.nil_append, zb_0, zb_1, zem, z01, z11, nI_add, ↓reduceIte, not_true_eq_false, not_false_eq_true, n0T, n1F, n11T, true_or, or_true, false_or]
theorem m_nextNo {sc : Int32 × (Int32 → Int32)} {f : zF} {a : zA} {j : zJ} {d tn p : Nat} {tx : Nat → Nat} (hT : TX tx tn f a) (hV : VX tx tn) (h5 : f 65 5 = nI p) (hp : p ≤ 1000) (hd : ¬ dgA tx tn p = true) : cf sc (d + 1) 25 [.ref 65] f a j = some (some (.int (-1)), f, a, j) := by
  obtain ⟨t1, t2⟩ := hT
  have h100 := hV.1
  rw [en25]
  by_cases h1 : p < tn
  · have c1 : ¬ nI tn ≤ nI p := nI_ge h1 (by omega)
    have ix : zIx 20 66 (nI p) := ix66 (by omega)
    have e1 := t2 p h1
    have h128 := hV.2 p h1
    by_cases h2 : tx p < 48
    · have c2 : nI (tx p) < nI 48 := nI_lt h2 (by omega)
      simp only [q25_0, q25_1, q25_4, q25_5, q25_8, q25_11, q25_12, q25_15, q25_16, q25_19, q25_20, q25_23, q25_24, q25_25, q25_26, q25_28, q25_31, q25_32, q25_34, q25_37, q25_38, q25_39, q25_40, q25_41, q25_44, q25_45, q25_46, q25_49, q25_50, q25_52, q25_53, h5, t1, c1, ix, e1, c2, zCall_some, Option.toList, List.cons_append, List.nil_append, zb_0, zb_1, zem, z01, z11, nI_add, ↓reduceIte, not_true_eq_false, not_false_eq_true, n0T, n1F, n11T, true_or, or_true, false_or]
    · have c2 : ¬ nI (tx p) < nI 48 := nI_nlt (by omega) (by omega)
      have h3 : ¬ tx p ≤ 57 := fun q => hd (decide_eq_true ⟨h1, by omega, q⟩)
      have c3 : ¬ nI (tx p) ≤ nI 57 := nI_ge (by omega) (by omega)
      simp only [q25_0, q25_1, q25_4, q25_5, q25_8, q25_11, q25_12, q25_15, q25_16, q25_19, q25_20, q25_23, q25_24, q25_25, q25_26, q25_28, q25_31, q25_32, q25_34, q25_37, q25_38, q25_39, q25_40, q25_41, q25_44, q25_45, q25_46, q25_49, q25_50, q25_52, q25_53, h5, t1, c1, ix, e1, c2, c3, zCall_some, Option.toList, List.cons_append, List.nil_append, zb_0, zb_1, zem, z01, z11, nI_add, ↓reduceIte, not_true_eq_false, not_false_eq_true, n0T, n1F, n11T, true_or, or_true, false_or]
  · have c1 : nI tn ≤ nI p := nI_le (by omega) (by omega)
    have c2 : nI 0 < nI 48 := nI_lt (by omega) (by omega)
    simp only [q25_0, q25_1, q25_4, q25_5, q25_8, q25_11, q25_12, q25_15, q25_16, q25_19, q25_20, q25_23, q25_24, q25_25, q25_26, q25_28, q25_31, q25_32, q25_34, q25_37, q25_38, q25_39, q25_40, q25_41, q25_44, q25_45, q25_46, q25_49, q25_50, q25_52, q25_53, h5, t1, c1, c2, zCall_some, Option.toList, List.cons_append, List.nil_append, zb_0, zb_1, zem, z01, z11, nI_add, ↓reduceIte, not_true_eq_false, not_false_eq_true, n0T, n1F, n11T, true_or, or_true, false_or]
theorem m_withNext {sc : Int32 × (Int32 → Int32)} {f : zF} {a : zA} {j : zJ} {d tn p m : Nat} {tx : Nat → Nat} (hT : TX tx tn f a) (hV : VX tx tn) (h5 : f 65 5 = nI p) (hd : dgA tx tn p = true) : cf sc (d + 2) 26 [.ref 65, .int (nI m)] f a j = some (some (.int (nI (m * 10 + (tx p - 48)))), zuF f 65 5 (nI (p + 1)), a, j) := by
  have h128 := hV.2 p (dg_lt hd).1
  have c1 : 0 ≤ nI (tx p - 48) := nI_le (a := 0) (by omega) (by omega)
  rw [en26]
  simp only [q26_0, q26_1, q26_4, q26_5, q26_6, q26_9, q26_10, q26_13, q26_14, q26_16, q26_17, q26_18, q26_19, m_nextDigit hT hV h5 hd, c1, pk_mul, zCall_some, Option.toList, List.cons_append, List.nil_append, zb_0, zb_1, zem, z01, z11, nI_add, ↓reduceIte, not_true_eq_false, not_false_eq_true, n0T, n1F, n11T, true_or, or_true, false_or]
theorem m_withNo {sc : Int32 × (Int32 → Int32)} {f : zF} {a : zA} {j : zJ} {d tn p m : Nat} {tx : Nat → Nat} (hT : TX tx tn f a) (hV : VX tx tn) (h5 : f 65 5 = nI p) (hp : p ≤ 1000) (hd : ¬ dgA tx tn p = true) : cf sc (d + 2) 26 [.ref 65, .int (nI m)] f a j = some (some (.int (nI m)), f, a, j) := by
  have c1 : ¬ (0 : Int32) ≤ -1 := by decide
  rw [en26]
  simp only [q26_0, q26_1, q26_4, q26_5, q26_6, q26_9, q26_10, q26_13, q26_14, q26_16, q26_17, q26_18, q26_19, m_nextNo hT hV h5 hp hd, c1, zCall_some, Option.toList, List.cons_append, List.nil_append, zb_0, zb_1, zem, z01, z11, nI_add, ↓reduceIte, not_true_eq_false, not_false_eq_true, n0T, n1F, n11T, true_or, or_true, false_or]
theorem m_numbersOf {sc : Int32 × (Int32 → Int32)} {f : zF} {a : zA} {j : zJ} {d x : Nat} (hx : x < 128) : cf sc (d + 1) 23 [.int (nI x)] f a j = some (some (.int (nI (nmF x))), f, a, j) := by
  rw [en23]
  have e : ∀ y, y < 128 → (nI x = nI y) = (x = y) := fun y hy => propext (nI_eq (by omega) (by omega))
  simp only [q23_0, q23_1, q23_60, q23_61, q23_62, q23_63, q23_64, q23_65, q23_66, q23_67, e 97 (by omega), e 99 (by omega), e 102 (by omega), e 104 (by omega), e 112 (by omega), e 117 (by omega), zCall_some, Option.toList, List.cons_append, List.nil_append, zb_0, zb_1, zem, z01, z11, nI_add, ↓reduceIte, not_true_eq_false, not_false_eq_true, n0T, n1F, n11T, true_or, or_true, false_or]
  unfold nmF
  by_cases h1 : x = 97
  · subst h1; simp
  by_cases h2 : x = 99
  · subst h2; simp
  by_cases h3 : x = 102
  · subst h3; simp
  by_cases h4 : x = 104
  · subst h4; simp
  by_cases h5 : x = 112
  · subst h5; simp
  by_cases h6 : x = 117
  · subst h6; simp
  simp [h1, h2, h3, h4, h5, h6]
theorem m_isLastLong {sc : Int32 × (Int32 → Int32)} {f : zF} {a : zA} {j : zJ} {d x : Nat} (hx : x < 128) : cf sc (d + 1) 24 [.int (nI x)] f a j = some (some (.int (zb (x = 99 ∨ x = 104))), f, a, j) := by
  rw [en24]
  have e : ∀ y, y < 128 → (nI x = nI y) = (x = y) := fun y hy => propext (nI_eq (by omega) (by omega))
  simp only [q24_0, q24_1, q24_3, q24_6, q24_7, q24_9, q24_12, q24_13, q24_16, q24_17, e 99 (by omega), e 104 (by omega), zCall_some, Option.toList, List.cons_append, List.nil_append, zb_0, zb_1, zem, z01, z11, nI_add, ↓reduceIte, not_true_eq_false, not_false_eq_true, n0T, n1F, n11T, true_or, or_true, false_or]
  unfold zb
  by_cases h2 : x = 99
  · subst h2; simp
  by_cases h4 : x = 104
  · subst h4; simp
  simp [h2, h4]
theorem rf68 {i : Nat} (h : i < 3) : zRf 68 i = 69 + i := by
  rcases i with _ | _ | _ | i
  · rfl
  · rfl
  · rfl
  · omega
theorem ix68 {i : Nat} (h : i < 3) : (zKd 68 = 23 ∨ zKd 68 = 24) ∧ ¬ (nI i < 0 ∨ zLn 68 ≤ i) := by
  refine ⟨by decide, ?_⟩
  rintro (q | q)
  · exact nI_pos (by omega) q
  · have : zLn 68 = 3 := rfl
    omega
theorem ix69i {i k : Nat} (h : i < 3) (hk : k < 12) : zIx 21 (69 + i) (nI k) := by
  rcases i with _ | _ | _ | i
  · exact ix69 hk
  · exact ix70 hk
  · exact ix71 hk
  · omega
/-- one CLAUSE's cells alone have changed -/
def FrK (k : Nat) (f f' : zF) (a a' : zA) : Prop := (∀ q, q ≠ 65 → f' q = f q) ∧ (∀ q, q ≠ 5 → q ≠ 4 → f' 65 q = f 65 q) ∧ (∀ q, (q < 67 ∨ 71 < q) → a' q = a q) ∧ ∀ q i, i < 12 → i ≠ k → a' q (nI i) = a q (nI i)
theorem FrK.rf {k : Nat} {f : zF} {a : zA} : FrK k f f a a := ⟨fun _ _ => rfl, fun _ _ _ => rfl, fun _ _ => rfl, fun _ _ _ _ => rfl⟩
theorem FrK.tr {k : Nat} {f f1 f2 : zF} {a a1 a2 : zA} (h : FrK k f f1 a a1) (g : FrK k f1 f2 a1 a2) : FrK k f f2 a a2 := ⟨fun q hq => (g.1 q hq).trans (h.1 q hq), fun q hq h4 => (g.2.1 q hq h4).trans (h.2.1 q hq h4), fun q hq => (g.2.2.1 q hq).trans (h.2.2.1 q hq), fun q i h1 h2 => (g.2.2.2 q i h1 h2).trans (h.2.2.2 q i h1 h2)⟩
theorem FrK.tx {k tn : Nat} {tx : Nat → Nat} {f f' : zF} {a a' : zA} (h : FrK k f f' a a') (hT : TX tx tn f a) : TX tx tn f' a' := ⟨by rw [h.2.1 1 (by omega) (by omega)]; exact hT.1, fun i hi => by rw [h.2.2.1 66 (by omega)]; exact hT.2 i hi⟩
theorem cr_in {sc : Int32 × (Int32 → Int32)} {d tn p k : Nat} {j : zJ} {tx : Nat → Nat} (hV : VX tx tn) (hp : p < tn) (hk : k < 12) : ∀ (m i : Nat) (f : zF) (a : zA) (v5 v6 : Value), i + m = nmF (tx p) → TX tx tn f a → f 65 5 = nI (if i = nmF (tx p) then clE tx tn p else p + 1 + i) → fdN tx tn (p + 1) i = i → (∀ q, q < i → a (69 + q) (nI k) = nI (vlF tx tn p q)) →
    ∃ (f' : zF) (a' : zA), rn sc (cf sc (d + 2)) 22 64 [.ref 65, .int (nI k), .int (nI (tx p)), .int (nI (nmF (tx p))), .int (nI i), v5, v6] [] f a j = some (some (.int (zb (fdN tx tn (p + 1) (nmF (tx p)) = nmF (tx p)))), f', a', j) ∧ f' 65 5 = nI (if fdN tx tn (p + 1) (nmF (tx p)) = nmF (tx p) then clE tx tn p else p + 1 + fdN tx tn (p + 1) (nmF (tx p))) ∧ (fdN tx tn (p + 1) (nmF (tx p)) = nmF (tx p) → ∀ q, q < nmF (tx p) → a' (69 + q) (nI k) = nI (vlF tx tn p q)) ∧ FrK k f f' a a' ∧ a' 67 = a 67 := by
  have h3 := nmF_le (tx p)
  have h100 := hV.1
  have h128 := hV.2 p hp
  intro m
  induction m with
  | zero =>
    intro i f a v5 v6 hi hT h5 hf hA
    have e : i = nmF (tx p) := by omega
    rw [e] at hf h5 hA ⊢
    rw [if_pos rfl] at h5
    have c1 : nI (nmF (tx p)) ≤ nI (nmF (tx p)) := nI_le (Nat.le_refl _) (by omega)
    refine ⟨f, a, ?_, by rw [if_pos hf]; exact h5, fun _ => hA, FrK.rf, rfl⟩
    rw [zb_t hf]
    simp only [q22_64, q22_66, q22_67, q22_142, q22_143, c1, zCall_some, Option.toList, List.cons_append, List.nil_append, zb_0, zb_1, zem, z01, z11, nI_add, ↓reduceIte, not_true_eq_false, not_false_eq_true, n0T, n1F, n11T, true_or, or_true, false_or]
  | succ m ih =>
    intro i f a v5 v6 hi hT h5 hf hA
    have hil : i < nmF (tx p) := by omega
    rw [if_neg (by omega)] at h5
    have c1 : ¬ nI (nmF (tx p)) ≤ nI i := nI_ge hil (by omega)
    have c2 : ¬ nI 3 ≤ nI i := nI_ge (by omega) (by omega)
    have ec : (nI i).toNatClampNeg = i := nI_clamp (by omega)
    have hx := ix68 (i := i) (by omega)
    have hr := rf68 (i := i) (by omega)
    have ix : zIx 21 (69 + i) (nI k) := ix69i (by omega) hk
    by_cases hd : dgA tx tn (p + 1 + i) = true
    · have hN := m_nextDigit (sc := sc) (d := d + 1) (j := j) hT hV h5 hd
      have hT1 : TX tx tn (zuF f 65 5 (nI (p + 1 + i + 1))) a := ⟨by rw [zuF_ni (by omega)]; exact hT.1, hT.2⟩
      have hL := m_isLastLong (sc := sc) (d := d + 1) (f := zuF f 65 5 (nI (p + 1 + i + 1))) (a := a) (j := j) h128
      have es : nI (nmF (tx p)) - nI 1 = nI (nmF (tx p) - 1) := pk_sub (by omega)
      have hdg := hV.2 _ (dg_lt hd).1
      have c3 : 0 ≤ nI (tx (p + 1 + i) - 48) := nI_le (a := 0) (by omega) (by omega)
      have step : ∃ (f2 : zF) (w5 w6 : Value), rn sc (cf sc (d + 2)) 22 64 [.ref 65, .int (nI k), .int (nI (tx p)), .int (nI (nmF (tx p))), .int (nI i), v5, v6] [] f a j = rn sc (cf sc (d + 2)) 22 64 [.ref 65, .int (nI k), .int (nI (tx p)), .int (nI (nmF (tx p))), .int (nI (i + 1)), w5, w6] [] f2 (zuA a (69 + i) (nI k) (nI (vlF tx tn p i))) j ∧ f2 65 5 = nI (if i + 1 = nmF (tx p) then clE tx tn p else p + 1 + (i + 1)) ∧ (∀ q, q ≠ 65 → f2 q = f q) ∧ ∀ q, q ≠ 5 → f2 65 q = f 65 q := by
        by_cases e1 : i + 1 = nmF (tx p)
        · have e2 : nmF (tx p) - 1 = i := by omega
          by_cases x1 : tx p = 99 ∨ tx p = 104
          · by_cases x2 : dgA tx tn (p + 1 + i + 1) = true
            · have hlx : lxB tx tn p = true := (Bool.and_eq_true _ _).mpr ⟨decide_eq_true x1, by rw [← e1]; exact x2⟩
              have hW := m_withNext (sc := sc) (d := d) (j := j) (m := tx (p + 1 + i) - 48) hT1 hV zuF_eq x2
              have ev : vlF tx tn p i = (tx (p + 1 + i) - 48) * 10 + (tx (p + 1 + i + 1) - 48) := by
                unfold vlF
                rw [if_pos ⟨e1, hlx⟩, ← e1]
                rfl
              refine ⟨zuF (zuF f 65 5 (nI (p + 1 + i + 1))) 65 5 (nI (p + 1 + i + 1 + 1)), .int (nI (tx (p + 1 + i) - 48)), .int (nI 1), ?_, ?_, fun q hq => by rw [zuF_nk hq, zuF_nk hq], fun q hq => by rw [zuF_ni hq, zuF_ni hq]⟩
              · rw [ev, q22_64]
                simp only [q22_0, q22_1, q22_4, q22_5, q22_8, q22_11, q22_12, q22_13, q22_15, q22_18, q22_21, q22_22, q22_23, q22_24, q22_27, q22_28, q22_31, q22_32, q22_33, q22_34, q22_37, q22_38, q22_39, q22_42, q22_43, q22_44, q22_45, q22_48, q22_49, q22_50, q22_51, q22_52, q22_53, q22_56, q22_57, q22_58, q22_61, q22_62, q22_66, q22_67, q22_70, q22_72, q22_73, q22_76, q22_77, q22_80, q22_82, q22_84, q22_87, q22_88, q22_89, q22_90, q22_93, q22_96, q22_98, q22_99, q22_100, q22_101, q22_104, q22_105, q22_108, q22_109, q22_111, q22_112, q22_115, q22_117, q22_118, q22_119, q22_121, q22_124, q22_125, q22_127, q22_130, q22_133, q22_135, q22_136, q22_139, q22_142, q22_143, c1, c2, hN, c3, hL, eq_true x1, es, e2, ec, eq_true hx, hr, ix, hW, zCall_some, Option.toList, List.cons_append, List.nil_append, zb_0, zb_1, zem, z01, z11, nI_add, ↓reduceIte, not_true_eq_false, not_false_eq_true, n0T, n1F, n11T, true_or, or_true, false_or]
              · rw [zuF_eq, if_pos e1]
                unfold clE
                rw [if_pos hlx, ← e1]
                rfl
            · have hlx : ¬ lxB tx tn p = true := fun q => x2 (by have := ((Bool.and_eq_true _ _).mp q).2; rw [← e1] at this; exact this)
              have hW := m_withNo (sc := sc) (d := d) (j := j) (m := tx (p + 1 + i) - 48) hT1 hV zuF_eq (by omega) x2
              have ev : vlF tx tn p i = tx (p + 1 + i) - 48 := by
                unfold vlF
                rw [if_neg (fun q => hlx q.2)]
              refine ⟨zuF f 65 5 (nI (p + 1 + i + 1)), .int (nI (tx (p + 1 + i) - 48)), .int (nI 1), ?_, ?_, fun q hq => zuF_nk hq, fun q hq => zuF_ni hq⟩
              · rw [ev, q22_64]
                simp only [q22_0, q22_1, q22_4, q22_5, q22_8, q22_11, q22_12, q22_13, q22_15, q22_18, q22_21, q22_22, q22_23, q22_24, q22_27, q22_28, q22_31, q22_32, q22_33, q22_34, q22_37, q22_38, q22_39, q22_42, q22_43, q22_44, q22_45, q22_48, q22_49, q22_50, q22_51, q22_52, q22_53, q22_56, q22_57, q22_58, q22_61, q22_62, q22_66, q22_67, q22_70, q22_72, q22_73, q22_76, q22_77, q22_80, q22_82, q22_84, q22_87, q22_88, q22_89, q22_90, q22_93, q22_96, q22_98, q22_99, q22_100, q22_101, q22_104, q22_105, q22_108, q22_109, q22_111, q22_112, q22_115, q22_117, q22_118, q22_119, q22_121, q22_124, q22_125, q22_127, q22_130, q22_133, q22_135, q22_136, q22_139, q22_142, q22_143, c1, c2, hN, c3, hL, eq_true x1, es, e2, ec, eq_true hx, hr, ix, hW, zCall_some, Option.toList, List.cons_append, List.nil_append, zb_0, zb_1, zem, z01, z11, nI_add, ↓reduceIte, not_true_eq_false, not_false_eq_true, n0T, n1F, n11T, true_or, or_true, false_or]
              · rw [zuF_eq, if_pos e1]
                unfold clE
                rw [if_neg hlx, ← e1]
                rfl
          · have hlx : ¬ lxB tx tn p = true := fun q => x1 (of_decide_eq_true ((Bool.and_eq_true _ _).mp q).1)
            have ev : vlF tx tn p i = tx (p + 1 + i) - 48 := by
              unfold vlF
              rw [if_neg (fun q => hlx q.2)]
            refine ⟨zuF f 65 5 (nI (p + 1 + i + 1)), .int (nI (tx (p + 1 + i) - 48)), .int (nI 0), ?_, ?_, fun q hq => zuF_nk hq, fun q hq => zuF_ni hq⟩
            · rw [ev, q22_64]
              simp only [q22_0, q22_1, q22_4, q22_5, q22_8, q22_11, q22_12, q22_13, q22_15, q22_18, q22_21, q22_22, q22_23, q22_24, q22_27, q22_28, q22_31, q22_32, q22_33, q22_34, q22_37, q22_38, q22_39, q22_42, q22_43, q22_44, q22_45, q22_48, q22_49, q22_50, q22_51, q22_52, q22_53, q22_56, q22_57, q22_58, q22_61, q22_62, q22_66, q22_67, q22_70, q22_72, q22_73, q22_76, q22_77, q22_80, q22_82, q22_84, q22_87, q22_88, q22_89, q22_90, q22_93, q22_96, q22_98, q22_99, q22_100, q22_101, q22_104, q22_105, q22_108, q22_109, q22_111, q22_112, q22_115, q22_117, q22_118, q22_119, q22_121, q22_124, q22_125, q22_127, q22_130, q22_133, q22_135, q22_136, q22_139, q22_142, q22_143, c1, c2, hN, c3, hL, eq_false x1, ec, eq_true hx, hr, ix, zCall_some, Option.toList, List.cons_append, List.nil_append, zb_0, zb_1, zem, z01, z11, nI_add, ↓reduceIte, not_true_eq_false, not_false_eq_true, n0T, n1F, n11T, true_or, or_true, false_or]
            · rw [zuF_eq, if_pos e1]
              unfold clE
              rw [if_neg hlx, ← e1]
              rfl
        · have ev : vlF tx tn p i = tx (p + 1 + i) - 48 := by
            unfold vlF
            rw [if_neg (fun q => e1 q.1)]
          have c4 : ¬ nI i = nI (nmF (tx p) - 1) := nI_ne (by omega) (by omega) (by omega)
          refine ⟨zuF f 65 5 (nI (p + 1 + i + 1)), .int (nI (tx (p + 1 + i) - 48)), .int (nI 0), ?_, ?_, fun q hq => zuF_nk hq, fun q hq => zuF_ni hq⟩
          · rw [ev, q22_64]
            by_cases x1 : tx p = 99 ∨ tx p = 104
            · simp only [q22_0, q22_1, q22_4, q22_5, q22_8, q22_11, q22_12, q22_13, q22_15, q22_18, q22_21, q22_22, q22_23, q22_24, q22_27, q22_28, q22_31, q22_32, q22_33, q22_34, q22_37, q22_38, q22_39, q22_42, q22_43, q22_44, q22_45, q22_48, q22_49, q22_50, q22_51, q22_52, q22_53, q22_56, q22_57, q22_58, q22_61, q22_62, q22_66, q22_67, q22_70, q22_72, q22_73, q22_76, q22_77, q22_80, q22_82, q22_84, q22_87, q22_88, q22_89, q22_90, q22_93, q22_96, q22_98, q22_99, q22_100, q22_101, q22_104, q22_105, q22_108, q22_109, q22_111, q22_112, q22_115, q22_117, q22_118, q22_119, q22_121, q22_124, q22_125, q22_127, q22_130, q22_133, q22_135, q22_136, q22_139, q22_142, q22_143, c1, c2, hN, c3, hL, eq_true x1, es, c4, ec, eq_true hx, hr, ix, zCall_some, Option.toList, List.cons_append, List.nil_append, zb_0, zb_1, zem, z01, z11, nI_add, ↓reduceIte, not_true_eq_false, not_false_eq_true, n0T, n1F, n11T, true_or, or_true, false_or]
            · simp only [q22_0, q22_1, q22_4, q22_5, q22_8, q22_11, q22_12, q22_13, q22_15, q22_18, q22_21, q22_22, q22_23, q22_24, q22_27, q22_28, q22_31, q22_32, q22_33, q22_34, q22_37, q22_38, q22_39, q22_42, q22_43, q22_44, q22_45, q22_48, q22_49, q22_50, q22_51, q22_52, q22_53, q22_56, q22_57, q22_58, q22_61, q22_62, q22_66, q22_67, q22_70, q22_72, q22_73, q22_76, q22_77, q22_80, q22_82, q22_84, q22_87, q22_88, q22_89, q22_90, q22_93, q22_96, q22_98, q22_99, q22_100, q22_101, q22_104, q22_105, q22_108, q22_109, q22_111, q22_112, q22_115, q22_117, q22_118, q22_119, q22_121, q22_124, q22_125, q22_127, q22_130, q22_133, q22_135, q22_136, q22_139, q22_142, q22_143, c1, c2, hN, c3, hL, eq_false x1, ec, eq_true hx, hr, ix, zCall_some, Option.toList, List.cons_append, List.nil_append, zb_0, zb_1, zem, z01, z11, nI_add, ↓reduceIte, not_true_eq_false, not_false_eq_true, n0T, n1F, n11T, true_or, or_true, false_or]
          · rw [zuF_eq, if_neg e1]
            rfl
      obtain ⟨f2, w5, w6, s1, s2, s3, s4⟩ := step
      have hF : FrK k f f2 a (zuA a (69 + i) (nI k) (nI (vlF tx tn p i))) := ⟨s3, fun q hq _ => s4 q hq, fun q hq => zuA_nk (by omega), fun q i' h1 h2 => zuA_ni (nI_ne (by omega) (by omega) h2)⟩
      obtain ⟨f', a', r1, r2, r3, r4, r5⟩ := ih (i + 1) f2 (zuA a (69 + i) (nI k) (nI (vlF tx tn p i))) w5 w6 (by omega) (hF.tx hT) s2 (by rw [fdN_s, if_pos ⟨hf, hd⟩]) (fun q hq => by
        by_cases e : q = i
        · rw [e]; exact zuA_eq
        · rw [zuA_nk (by omega)]; exact hA q (by omega))
      exact ⟨f', a', s1.trans r1, r2, r3, hF.tr r4, by rw [r5, zuA_nk (by omega)]⟩
    · have hs := fdN_stop hf hd m
      rw [show i + 1 + m = nmF (tx p) by omega] at hs
      have hN := m_nextNo (sc := sc) (d := d + 1) (j := j) hT hV h5 (by omega) hd
      have c3 : ¬ (0 : Int32) ≤ -1 := by decide
      have hne : ¬ fdN tx tn (p + 1) (nmF (tx p)) = nmF (tx p) := by omega
      refine ⟨f, a, ?_, by rw [if_neg hne, hs]; exact h5, fun q => absurd q hne, FrK.rf, rfl⟩
      rw [zb_f hne, q22_64]
      simp only [q22_0, q22_1, q22_4, q22_5, q22_8, q22_11, q22_12, q22_13, q22_15, q22_18, q22_21, q22_22, q22_23, q22_24, q22_27, q22_28, q22_31, q22_32, q22_33, q22_34, q22_37, q22_38, q22_39, q22_42, q22_43, q22_44, q22_45, q22_48, q22_49, q22_50, q22_51, q22_52, q22_53, q22_56, q22_57, q22_58, q22_61, q22_62, q22_66, q22_67, q22_70, q22_72, q22_73, q22_76, q22_77, q22_80, q22_82, q22_84, q22_87, q22_88, q22_89, q22_90, q22_93, q22_96, q22_98, q22_99, q22_100, q22_101, q22_104, q22_105, q22_108, q22_109, q22_111, q22_112, q22_115, q22_117, q22_118, q22_119, q22_121, q22_124, q22_125, q22_127, q22_130, q22_133, q22_135, q22_136, q22_139, q22_142, q22_143, c1, c2, hN, c3, zCall_some, Option.toList, List.cons_append, List.nil_append, zb_0, zb_1, zem, z01, z11, nI_add, ↓reduceIte, not_true_eq_false, not_false_eq_true, n0T, n1F, n11T, true_or, or_true, false_or]
def CLF (tx : Nat → Nat) (tn k p : Nat) (a : zA) : Prop := a 67 (nI k) = nI (tx p) ∧ ∀ i, i < nmF (tx p) → a (69 + i) (nI k) = nI (vlF tx tn p i)
theorem m_isClauseRead {sc : Int32 × (Int32 → Int32)} {f : zF} {a : zA} {j : zJ} {d tn p k : Nat} {tx : Nat → Nat} (hV : VX tx tn) (hp : p ≤ tn) (hk : k < 12) (hT : TX tx tn f a) (h5 : f 65 5 = nI p) :
    ∃ (f' : zF) (a' : zA), cf sc (d + 3) 22 [.ref 65, .int (nI k)] f a j = some (some (.int (zb (ckB tx tn p = true))), f', a', j) ∧ f' 65 5 = nI (if ckB tx tn p = true then clE tx tn p else fltP tx tn p) ∧ (ckB tx tn p = true → CLF tx tn k p a') ∧ FrK k f f' a a' := by
  have h100 := hV.1
  rw [en22]
  by_cases h1 : p < tn
  · have c1 : ¬ nI tn ≤ nI p := nI_ge h1 (by omega)
    have ck : (¬ nI k < nI 0 ∧ ¬ nI 11 < nI k) = True := eq_true ⟨nI_nlt (by omega) (by omega), nI_nlt (by omega) (by omega)⟩
    have ix : zIx 20 66 (nI p) := ix66 (by omega)
    have e1 := hT.2 p h1
    have e0 := hT.1
    have h128 := hV.2 p h1
    have h3 := nmF_le (tx p)
    have hN := m_numbersOf (sc := sc) (d := d + 1) (f := f) (a := a) (j := j) h128
    by_cases hz : nmF (tx p) = 0
    · have hck : ¬ ckB tx tn p = true := fun q => by have := of_decide_eq_true q; exact this.2.1 hz
      refine ⟨f, a, ?_, ?_, fun q => absurd q hck, FrK.rf⟩
      · rw [zb_f hck]
        rw [hz] at hN
        simp only [q22_0, q22_1, q22_4, q22_5, q22_8, q22_11, q22_12, q22_13, q22_15, q22_18, q22_21, q22_22, q22_23, q22_24, q22_27, q22_28, q22_31, q22_32, q22_33, q22_34, q22_37, q22_38, q22_39, q22_42, q22_43, q22_44, q22_45, q22_48, q22_49, q22_50, q22_51, q22_52, q22_53, q22_56, q22_57, q22_58, q22_61, q22_62, q22_66, q22_67, q22_70, q22_72, q22_73, q22_76, q22_77, q22_80, q22_82, q22_84, q22_87, q22_88, q22_89, q22_90, q22_93, q22_96, q22_98, q22_99, q22_100, q22_101, q22_104, q22_105, q22_108, q22_109, q22_111, q22_112, q22_115, q22_117, q22_118, q22_119, q22_121, q22_124, q22_125, q22_127, q22_130, q22_133, q22_135, q22_136, q22_139, q22_142, q22_143, h5, e0, c1, m_isWithin, ck, ix, e1, hN, zCall_some, Option.toList, List.cons_append, List.nil_append, zb_0, zb_1, zem, z01, z11, nI_add, ↓reduceIte, not_true_eq_false, not_false_eq_true, n0T, n1F, n11T, true_or, or_true, false_or]
      · rw [if_neg hck]
        unfold fltP
        rw [if_pos (Or.inr hz)]
        exact h5
    · have cz : ¬ nI (nmF (tx p)) = 0 := nI_ne0 (by omega) (by omega)
      have ix7 : zIx 21 67 (nI k) := ix67 hk
      have hF : FrK k f (zuF f 65 5 (nI (p + 1))) a (zuA a 67 (nI k) (nI (tx p))) := ⟨fun q hq => zuF_nk hq, fun q hq _ => zuF_ni hq, fun q hq => zuA_nk (by omega), fun q i' h1 h2 => zuA_ni (nI_ne (by omega) (by omega) h2)⟩
      obtain ⟨f', a', r1, r2, r3, r4, r5⟩ := cr_in (sc := sc) (d := d) (j := j) hV h1 hk (nmF (tx p)) 0 (zuF f 65 5 (nI (p + 1))) (zuA a 67 (nI k) (nI (tx p))) .null .null (by omega) (hF.tx hT) (by rw [if_neg (fun q => hz q.symm)]; exact zuF_eq) rfl (fun q hq => by omega)
      have hbeg : rn sc (cf sc (d + 2)) 22 0 [.ref 65, .int (nI k), .null, .null, .null, .null, .null] [] f a j = rn sc (cf sc (d + 2)) 22 64 [.ref 65, .int (nI k), .int (nI (tx p)), .int (nI (nmF (tx p))), .int (nI 0), .null, .null] [] (zuF f 65 5 (nI (p + 1))) (zuA a 67 (nI k) (nI (tx p))) j := by
        simp only [q22_0, q22_1, q22_4, q22_5, q22_8, q22_11, q22_12, q22_13, q22_15, q22_18, q22_21, q22_22, q22_23, q22_24, q22_27, q22_28, q22_31, q22_32, q22_33, q22_34, q22_37, q22_38, q22_39, q22_42, q22_43, q22_44, q22_45, q22_48, q22_49, q22_50, q22_51, q22_52, q22_53, q22_56, q22_57, q22_58, q22_61, q22_62, q22_66, q22_67, q22_70, q22_72, q22_73, q22_76, q22_77, q22_80, q22_82, q22_84, q22_87, q22_88, q22_89, q22_90, q22_93, q22_96, q22_98, q22_99, q22_100, q22_101, q22_104, q22_105, q22_108, q22_109, q22_111, q22_112, q22_115, q22_117, q22_118, q22_119, q22_121, q22_124, q22_125, q22_127, q22_130, q22_133, q22_135, q22_136, q22_139, q22_142, q22_143, h5, e0, c1, m_isWithin, ck, ix, e1, hN, cz, ix7, zCall_some, Option.toList, List.cons_append, List.nil_append, zb_0, zb_1, zem, z01, z11, nI_add, ↓reduceIte, not_true_eq_false, not_false_eq_true, n0T, n1F, n11T, true_or, or_true, false_or]
      rw [hbeg, r1]
      have hiff : (fdN tx tn (p + 1) (nmF (tx p)) = nmF (tx p)) ↔ (ckB tx tn p = true) := ⟨fun q => decide_eq_true ⟨h1, hz, q⟩, fun q => (of_decide_eq_true q).2.2⟩
      refine ⟨f', a', by rw [zb_iff hiff], ?_, fun q => ⟨by rw [r5]; exact zuA_eq, r3 (hiff.mpr q)⟩, hF.tr r4⟩
      rw [r2]
      by_cases hck : ckB tx tn p = true
      · rw [if_pos hck, if_pos (hiff.mpr hck)]
      · rw [if_neg hck, if_neg (fun q => hck (hiff.mp q))]
        unfold fltP
        rw [if_neg (by rintro (q | q) <;> omega)]
  · have c1 : nI tn ≤ nI p := nI_le (by omega) (by omega)
    have hck : ¬ ckB tx tn p = true := fun q => by have := of_decide_eq_true q; omega
    refine ⟨f, a, ?_, ?_, fun q => absurd q hck, FrK.rf⟩
    · rw [zb_f hck]
      simp only [q22_0, q22_1, q22_4, q22_5, q22_8, q22_11, q22_12, q22_13, q22_15, q22_18, q22_21, q22_22, q22_23, q22_24, q22_27, q22_28, q22_31, q22_32, q22_33, q22_34, q22_37, q22_38, q22_39, q22_42, q22_43, q22_44, q22_45, q22_48, q22_49, q22_50, q22_51, q22_52, q22_53, q22_56, q22_57, q22_58, q22_61, q22_62, q22_66, q22_67, q22_70, q22_72, q22_73, q22_76, q22_77, q22_80, q22_82, q22_84, q22_87, q22_88, q22_89, q22_90, q22_93, q22_96, q22_98, q22_99, q22_100, q22_101, q22_104, q22_105, q22_108, q22_109, q22_111, q22_112, q22_115, q22_117, q22_118, q22_119, q22_121, q22_124, q22_125, q22_127, q22_130, q22_133, q22_135, q22_136, q22_139, q22_142, q22_143, h5, hT.1, c1, zCall_some, Option.toList, List.cons_append, List.nil_append, zb_0, zb_1, zem, z01, z11, nI_add, ↓reduceIte, not_true_eq_false, not_false_eq_true, n0T, n1F, n11T, true_or, or_true, false_or]
    · rw [if_neg hck]
      unfold fltP
      rw [if_pos (Or.inl (by omega))]
      exact h5
/-- the cells of the SetUp alone have changed -/
def FrU (f f' : zF) (a a' : zA) : Prop := (∀ q, q ≠ 65 → f' q = f q) ∧ (∀ q, q ≠ 5 → q ≠ 4 → f' 65 q = f 65 q) ∧ ∀ q, (q < 67 ∨ 71 < q) → a' q = a q
theorem FrU.rf {f : zF} {a : zA} : FrU f f a a := ⟨fun _ _ => rfl, fun _ _ _ => rfl, fun _ _ => rfl⟩
theorem FrU.tr {f f1 f2 : zF} {a a1 a2 : zA} (h : FrU f f1 a a1) (g : FrU f1 f2 a1 a2) : FrU f f2 a a2 := ⟨fun q hq => (g.1 q hq).trans (h.1 q hq), fun q hq h4 => (g.2.1 q hq h4).trans (h.2.1 q hq h4), fun q hq => (g.2.2 q hq).trans (h.2.2 q hq)⟩
theorem FrK.u {k : Nat} {f f' : zF} {a a' : zA} (h : FrK k f f' a a') : FrU f f' a a' := ⟨h.1, h.2.1, h.2.2.1⟩
theorem CLF.fr {tx : Nat → Nat} {tn k i p : Nat} {f f' : zF} {a a' : zA} (h : CLF tx tn i p a) (g : FrK k f f' a a') (hi : i < 12) (hk : i ≠ k) : CLF tx tn i p a' := ⟨by rw [g.2.2.2 67 i hi hk]; exact h.1, fun q hq => by rw [g.2.2.2 _ i hi hk]; exact h.2 q hq⟩
theorem prF_s (tx : Nat → Nat) (tn m i : Nat) : prF tx tn (m + 1) i = if ckB tx tn (psN tx tn i) = true then (if tn ≤ clE tx tn (psN tx tn i) then (0, i + 1) else if tx (clE tx tn (psN tx tn i)) = 59 ∧ i + 1 ≠ 12 then prF tx tn m (i + 1) else (1, clE tx tn (psN tx tn i))) else (1, fltP tx tn (psN tx tn i)) := rfl
theorem pr_in {sc : Int32 × (Int32 → Int32)} {d tn : Nat} {j : zJ} {tx : Nat → Nat} (hV : VX tx tn) : ∀ (m i : Nat) (f : zF) (a : zA), i + m = 12 → TX tx tn f a → f 65 5 = nI (psN tx tn i) → psN tx tn i ≤ tn → (∀ q, q < i → CLF tx tn q (psN tx tn q) a ∧ psN tx tn q < tn ∧ nmF (tx (psN tx tn q)) ≠ 0) →
    ∃ (f' : zF) (a' : zA), rn sc (cf sc (d + 3)) 21 12 [.ref 65, .int (nI i)] [] f a j = some (some (.int (if (prF tx tn m i).1 = 0 then -1 else nI (prF tx tn m i).2)), f', a', j) ∧ ((prF tx tn m i).1 = 0 → f' 65 4 = nI (prF tx tn m i).2 ∧ (prF tx tn m i).2 ≤ 12 ∧ ∀ q, q < (prF tx tn m i).2 → CLF tx tn q (psN tx tn q) a' ∧ psN tx tn q < tn ∧ nmF (tx (psN tx tn q)) ≠ 0) ∧ (prF tx tn m i).2 ≤ 200 ∧ FrU f f' a a' := by
  have h100 := hV.1
  intro m
  induction m with
  | zero =>
    intro i f a hi hT h5 hp hC
    have c1 : nI 12 ≤ nI i := nI_le (by omega) (by omega)
    refine ⟨f, a, ?_, fun q => absurd (show (1 : Nat) = 0 from q) (by omega), ?_, FrU.rf⟩
    · show _ = some (some (Value.int (if (1 : Nat) = 0 then -1 else nI (psN tx tn i))), f, a, j)
      rw [if_neg (by omega)]
      simp only [q21_12, q21_13, q21_15, q21_95, q21_96, q21_99, c1, h5, zCall_some, Option.toList, List.cons_append, List.nil_append, zb_0, zb_1, zem, z01, z11, nI_add, ↓reduceIte, not_true_eq_false, not_false_eq_true, n0T, n1F, n11T, true_or, or_true, false_or]
    · show psN tx tn i ≤ 200
      omega
  | succ m ih =>
    intro i f a hi hT h5 hp hC
    have hil : i < 12 := by omega
    have c1 : ¬ nI 12 ≤ nI i := nI_ge hil (by omega)
    obtain ⟨f1, a1, r1, r2, r3, r4⟩ := m_isClauseRead (sc := sc) (d := d) (j := j) hV hp hil hT h5
    have h3 := nmF_le (tx (psN tx tn i))
    have hE : clE tx tn (psN tx tn i) ≤ 150 := by
      unfold clE
      split <;> omega
    rw [prF_s]
    by_cases hck : ckB tx tn (psN tx tn i) = true
    · rw [if_pos hck] at r2 ⊢
      obtain ⟨k1, k2, k3⟩ : psN tx tn i < tn ∧ nmF (tx (psN tx tn i)) ≠ 0 ∧ fdN tx tn (psN tx tn i + 1) (nmF (tx (psN tx tn i))) = nmF (tx (psN tx tn i)) := of_decide_eq_true hck
      have hT1 := r4.tx hT
      have hC1 : ∀ q, q < i + 1 → CLF tx tn q (psN tx tn q) a1 ∧ psN tx tn q < tn ∧ nmF (tx (psN tx tn q)) ≠ 0 := fun q hq => by
        by_cases e : q = i
        · rw [e]; exact ⟨r3 hck, k1, k2⟩
        · obtain ⟨g1, g2⟩ := hC q (by omega)
          exact ⟨g1.fr r4 (by omega) e, g2⟩
      have hU : FrU f (zuF f1 65 4 (nI (i + 1))) a a1 := r4.u.tr ⟨fun q hq => zuF_nk hq, fun q _ hq => zuF_ni hq, fun _ _ => rfl⟩
      have e5 : zuF f1 65 4 (nI (i + 1)) 65 5 = nI (clE tx tn (psN tx tn i)) := by rw [zuF_ni (by omega)]; exact r2
      have e0 : zuF f1 65 4 (nI (i + 1)) 65 1 = nI tn := by rw [zuF_ni (by omega)]; exact hT1.1
      by_cases hEn : tn ≤ clE tx tn (psN tx tn i)
      · rw [if_pos hEn]
        have c2 : ¬ nI (clE tx tn (psN tx tn i)) < nI tn := nI_nlt hEn (by omega)
        refine ⟨zuF f1 65 4 (nI (i + 1)), a1, ?_, fun _ => ⟨zuF_eq, by dsimp only; omega, hC1⟩, by dsimp only; omega, hU⟩
        rw [q21_12]
        simp only [q21_0, q21_1, q21_2, q21_5, q21_6, q21_7, q21_10, q21_11, q21_13, q21_15, q21_18, q21_19, q21_20, q21_23, q21_26, q21_27, q21_30, q21_31, q21_32, q21_33, q21_34, q21_35, q21_38, q21_39, q21_42, q21_43, q21_46, q21_49, q21_50, q21_51, q21_52, q21_55, q21_56, q21_59, q21_60, q21_62, q21_65, q21_66, q21_69, q21_71, q21_74, q21_75, q21_78, q21_79, q21_80, q21_81, q21_84, q21_85, q21_86, q21_89, q21_92, q21_95, q21_96, q21_99, c1, r1, eq_true hck, e5, e0, c2, zCall_some, Option.toList, List.cons_append, List.nil_append, zb_0, zb_1, zem, z01, z11, nI_add, ↓reduceIte, not_true_eq_false, not_false_eq_true, n0T, n1F, n11T, true_or, or_true, false_or]
      · rw [if_neg hEn]
        have c2 : nI (clE tx tn (psN tx tn i)) < nI tn := nI_lt (by omega) (by omega)
        have ix : zIx 20 66 (nI (clE tx tn (psN tx tn i))) := ix66 (by omega)
        have eT := hT1.2 (clE tx tn (psN tx tn i)) (by omega)
        have h128 := hV.2 (clE tx tn (psN tx tn i)) (by omega)
        have q59 : (nI (tx (clE tx tn (psN tx tn i))) = nI 59) = (tx (clE tx tn (psN tx tn i)) = 59) := propext (nI_eq (by omega) (by omega))
        have q12 : (nI (i + 1) = nI 12) = (i + 1 = 12) := propext (nI_eq (by omega) (by omega))
        by_cases h59 : tx (clE tx tn (psN tx tn i)) = 59
        · by_cases h12 : i + 1 = 12
          · have hq9 : ¬ (tx (clE tx tn (psN tx tn i)) = 59 ∧ i + 1 ≠ 12) := fun q => q.2 h12
            rw [if_neg hq9]
            refine ⟨zuF f1 65 4 (nI (i + 1)), a1, ?_, fun q => absurd (show (1 : Nat) = 0 from q) (by omega), by dsimp only; omega, hU⟩
            rw [q21_12]
            simp only [q21_0, q21_1, q21_2, q21_5, q21_6, q21_7, q21_10, q21_11, q21_13, q21_15, q21_18, q21_19, q21_20, q21_23, q21_26, q21_27, q21_30, q21_31, q21_32, q21_33, q21_34, q21_35, q21_38, q21_39, q21_42, q21_43, q21_46, q21_49, q21_50, q21_51, q21_52, q21_55, q21_56, q21_59, q21_60, q21_62, q21_65, q21_66, q21_69, q21_71, q21_74, q21_75, q21_78, q21_79, q21_80, q21_81, q21_84, q21_85, q21_86, q21_89, q21_92, q21_95, q21_96, q21_99, c1, r1, eq_true hck, e5, e0, c2, ix, eT, q59, eq_true h59, zuF_eq, q12, eq_true h12, Nat.one_ne_zero, zCall_some, Option.toList, List.cons_append, List.nil_append, zb_0, zb_1, zem, z01, z11, nI_add, ↓reduceIte, not_true_eq_false, not_false_eq_true, n0T, n1F, n11T, true_or, or_true, false_or]
          · have hq9 : tx (clE tx tn (psN tx tn i)) = 59 ∧ i + 1 ≠ 12 := ⟨h59, h12⟩
            rw [if_pos hq9]
            obtain ⟨f', a', g1, g2, g3, g4⟩ := ih (i + 1) (zuF (zuF f1 65 4 (nI (i + 1))) 65 5 (nI (clE tx tn (psN tx tn i) + 1))) a1 (by omega) ⟨by rw [zuF_ni (by omega)]; exact e0, hT1.2⟩ zuF_eq (by show clE tx tn (psN tx tn i) + 1 ≤ tn; omega) hC1
            refine ⟨f', a', ?_, g2, g3, (hU.tr ⟨fun q hq => zuF_nk hq, fun q hq _ => zuF_ni hq, fun _ _ => rfl⟩).tr g4⟩
            rw [← g1, q21_12]
            simp only [q21_0, q21_1, q21_2, q21_5, q21_6, q21_7, q21_10, q21_11, q21_13, q21_15, q21_18, q21_19, q21_20, q21_23, q21_26, q21_27, q21_30, q21_31, q21_32, q21_33, q21_34, q21_35, q21_38, q21_39, q21_42, q21_43, q21_46, q21_49, q21_50, q21_51, q21_52, q21_55, q21_56, q21_59, q21_60, q21_62, q21_65, q21_66, q21_69, q21_71, q21_74, q21_75, q21_78, q21_79, q21_80, q21_81, q21_84, q21_85, q21_86, q21_89, q21_92, q21_95, q21_96, q21_99, c1, r1, eq_true hck, e5, e0, c2, ix, eT, q59, eq_true h59, zuF_eq, q12, eq_false h12, zCall_some, Option.toList, List.cons_append, List.nil_append, zb_0, zb_1, zem, z01, z11, nI_add, ↓reduceIte, not_true_eq_false, not_false_eq_true, n0T, n1F, n11T, true_or, or_true, false_or]
        · have hq9 : ¬ (tx (clE tx tn (psN tx tn i)) = 59 ∧ i + 1 ≠ 12) := fun q => h59 q.1
          rw [if_neg hq9]
          refine ⟨zuF f1 65 4 (nI (i + 1)), a1, ?_, fun q => absurd (show (1 : Nat) = 0 from q) (by omega), by dsimp only; omega, hU⟩
          rw [q21_12]
          simp only [q21_0, q21_1, q21_2, q21_5, q21_6, q21_7, q21_10, q21_11, q21_13, q21_15, q21_18, q21_19, q21_20, q21_23, q21_26, q21_27, q21_30, q21_31, q21_32, q21_33, q21_34, q21_35, q21_38, q21_39, q21_42, q21_43, q21_46, q21_49, q21_50, q21_51, q21_52, q21_55, q21_56, q21_59, q21_60, q21_62, q21_65, q21_66, q21_69, q21_71, q21_74, q21_75, q21_78, q21_79, q21_80, q21_81, q21_84, q21_85, q21_86, q21_89, q21_92, q21_95, q21_96, q21_99, c1, r1, eq_true hck, e5, e0, c2, ix, eT, q59, eq_false h59, Nat.one_ne_zero, zCall_some, Option.toList, List.cons_append, List.nil_append, zb_0, zb_1, zem, z01, z11, nI_add, ↓reduceIte, not_true_eq_false, not_false_eq_true, n0T, n1F, n11T, true_or, or_true, false_or]
    · rw [if_neg hck] at r2 ⊢
      have hF : fltP tx tn (psN tx tn i) ≤ 200 := by
        have := fdN_le tx tn (psN tx tn i + 1) (nmF (tx (psN tx tn i)))
        unfold fltP
        split <;> omega
      refine ⟨f1, a1, ?_, fun q => absurd (show (1 : Nat) = 0 from q) (by omega), hF, r4.u⟩
      rw [q21_12]
      simp only [q21_0, q21_1, q21_2, q21_5, q21_6, q21_7, q21_10, q21_11, q21_13, q21_15, q21_18, q21_19, q21_20, q21_23, q21_26, q21_27, q21_30, q21_31, q21_32, q21_33, q21_34, q21_35, q21_38, q21_39, q21_42, q21_43, q21_46, q21_49, q21_50, q21_51, q21_52, q21_55, q21_56, q21_59, q21_60, q21_62, q21_65, q21_66, q21_69, q21_71, q21_74, q21_75, q21_78, q21_79, q21_80, q21_81, q21_84, q21_85, q21_86, q21_89, q21_92, q21_95, q21_96, q21_99, c1, r1, eq_false hck, r2, Nat.one_ne_zero, zCall_some, Option.toList, List.cons_append, List.nil_append, zb_0, zb_1, zem, z01, z11, nI_add, ↓reduceIte, not_true_eq_false, not_false_eq_true, n0T, n1F, n11T, true_or, or_true, false_or]
theorem m_parse {sc : Int32 × (Int32 → Int32)} {f : zF} {a : zA} {j : zJ} {d tn : Nat} {tx : Nat → Nat} (hV : VX tx tn) (hT : TX tx tn f a) :
    ∃ (f' : zF) (a' : zA), cf sc (d + 4) 21 [.ref 65] f a j = some (some (.int (if (prF tx tn 12 0).1 = 0 then -1 else nI (prF tx tn 12 0).2)), f', a', j) ∧ ((prF tx tn 12 0).1 = 0 → f' 65 4 = nI (prF tx tn 12 0).2 ∧ (prF tx tn 12 0).2 ≤ 12 ∧ ∀ q, q < (prF tx tn 12 0).2 → CLF tx tn q (psN tx tn q) a' ∧ psN tx tn q < tn ∧ nmF (tx (psN tx tn q)) ≠ 0) ∧ (prF tx tn 12 0).2 ≤ 200 ∧ FrU f f' a a' := by
  have hU : FrU f (zuF (zuF f 65 5 (nI 0)) 65 4 (nI 0)) a a := ⟨fun q hq => by rw [zuF_nk hq, zuF_nk hq], fun q q5 q4 => by rw [zuF_ni q4, zuF_ni q5], fun _ _ => rfl⟩
  obtain ⟨f', a', g1, g2, g3, g4⟩ := pr_in (sc := sc) (d := d) (j := j) hV 12 0 (zuF (zuF f 65 5 (nI 0)) 65 4 (nI 0)) a rfl ⟨by rw [zuF_ni (by omega), zuF_ni (by omega)]; exact hT.1, hT.2⟩ (by rw [zuF_ni (by omega)]; exact zuF_eq) (Nat.zero_le _) (fun q hq => by omega)
  refine ⟨f', a', ?_, g2, g3, hU.tr g4⟩
  rw [en21]
  simp only [q21_0, q21_1, q21_2, q21_5, q21_6, q21_7, q21_10, q21_11]
  exact g1
theorem nmF_c {x : Nat} (h : nmF x ≠ 0) : (x = 102 ∧ nmF x = 2) ∨ (x = 99 ∧ nmF x = 3) ∨ (x = 104 ∧ nmF x = 1) ∨ (x = 117 ∧ nmF x = 1) ∨ (x = 97 ∧ nmF x = 1) ∨ (x = 112 ∧ nmF x = 1) := by
  unfold nmF at h ⊢
  split
  · rename_i q; exact Or.inl ⟨q, rfl⟩
  · split
    · rename_i q; exact Or.inr (Or.inl ⟨q, rfl⟩)
    · split
      · rename_i q
        rcases q with q | q | q | q
        · exact Or.inr (Or.inr (Or.inr (Or.inr (Or.inl ⟨q, rfl⟩))))
        · exact Or.inr (Or.inr (Or.inl ⟨q, rfl⟩))
        · exact Or.inr (Or.inr (Or.inr (Or.inr (Or.inr ⟨q, rfl⟩))))
        · exact Or.inr (Or.inr (Or.inr (Or.inl ⟨q, rfl⟩)))
      · rename_i q1 q2 q3
        rw [if_neg q1, if_neg q2, if_neg q3] at h
        exact absurd rfl h
/-- an answer that is not below 0 -/
theorem zb_ge {x : Int32} : (if x < 0 then (0 : Nat) else 1) = if ¬ x < 0 then 1 else 0 := by split <;> simp_all
theorem m_clauseDone {sc : Int32 × (Int32 → Int32)} {f : zF} {a : zA} {j : zJ} {d k p tn n : Nat} {tx : Nat → Nat} {σ : Nat → Nat} (h4 : f 65 4 = nI n) (hkn : k < n) (hk : n ≤ 12) (hC : CLF tx tn k p a) (hn : nmF (tx p) ≠ 0) (hV : VC σ) (hR : CR 2 σ f a) :
    ∃ (f' : zF) (a' : zA), cf sc (d + 4) 101 [.ref 0, .int (nI k)] f a j = some (some (.int (zb (¬ (dcS σ (tx p) (vlF tx tn p 0) (vlF tx tn p 1) (vlF tx tn p 2)).1 < 0))), f', a', j) ∧ Did 2 σ (dcS σ (tx p) (vlF tx tn p 0) (vlF tx tn p 1) (vlF tx tn p 2)).2 f f' a a' := by
  obtain ⟨c1, c2⟩ := hC
  have cw : (¬ nI k < nI 0 ∧ ¬ nI n - nI 1 < nI k) = True := by
    rw [pk_sub (show 1 ≤ n by omega)]
    exact eq_true ⟨nI_nlt (by omega) (by omega), nI_nlt (by omega) (by omega)⟩
  have i7 : zIx 21 67 (nI k) := ix67 (by omega)
  have i9 : zIx 21 69 (nI k) := ix69 (by omega)
  have i0 : zIx 21 70 (nI k) := ix70 (by omega)
  have i1 : zIx 21 71 (nI k) := ix71 (by omega)
  have x0 := ix68 (i := 0) (by omega)
  have x1 := ix68 (i := 1) (by omega)
  have x2 := ix68 (i := 2) (by omega)
  have r0 := rf68 (i := 0) (by omega)
  have r1 := rf68 (i := 1) (by omega)
  have r2 := rf68 (i := 2) (by omega)
  have t0 : (nI 0).toNatClampNeg = 0 := nI_clamp (by omega)
  have t1 : (nI 1).toNatClampNeg = 1 := nI_clamp (by omega)
  have t2 : (nI 2).toNatClampNeg = 2 := nI_clamp (by omega)
  have lq : ∀ x y, x < 200 → y < 200 → x ≠ y → ¬ nI x = nI y := fun x y h1 h2 h => nI_ne (by omega) (by omega) h
  rw [en101]
  rcases nmF_c hn with ⟨hx, hm⟩ | ⟨hx, hm⟩ | ⟨hx, hm⟩ | ⟨hx, hm⟩ | ⟨hx, hm⟩ | ⟨hx, hm⟩
  · have v0 : a 69 (nI k) = nI (vlF tx tn p 0) := c2 0 (by omega)
    have v1 : a 70 (nI k) = nI (vlF tx tn p 1) := c2 1 (by omega)
    obtain ⟨f', a', g1, g2⟩ := m_comeField (sc := sc) (d := d + 1) (j := j) (x := nI (vlF tx tn p 0)) (y := nI (vlF tx tn p 1)) isC_2 hV hR
    have eD : dcS σ (tx p) (vlF tx tn p 0) (vlF tx tn p 1) (vlF tx tn p 2) = cfS σ (nI (vlF tx tn p 0)) (nI (vlF tx tn p 1)) := by unfold dcS; rw [if_pos hx]
    rw [eD]
    rw [hx] at c1
    refine ⟨f', a', ?_, g2⟩
    by_cases z : (cfS σ (nI (vlF tx tn p 0)) (nI (vlF tx tn p 1))).1 < 0
    · rw [zb_f (fun q => q z)]
      simp only [q101_0, q101_1, q101_2, q101_3, q101_6, q101_9, q101_10, q101_11, q101_14, q101_17, q101_18, q101_19, q101_20, q101_23, q101_26, q101_27, q101_28, q101_31, q101_34, q101_35, q101_36, q101_37, q101_38, q101_39, q101_40, q101_43, q101_46, q101_47, q101_48, q101_49, q101_50, q101_52, q101_53, q101_56, q101_59, q101_60, q101_61, q101_120, q101_121, q101_122, q101_124, q101_127, q101_129, q101_132, q101_133, q101_134, q101_136, q101_137, q101_140, q101_143, q101_144, q101_145, q101_146, q101_147, q101_150, q101_152, q101_155, q101_156, q101_157, q101_160, q101_162, q101_165, q101_166, q101_167, q101_170, q101_172, q101_175, q101_176, q101_177, q101_178, q101_181, q101_183, q101_186, q101_187, q101_188, q101_189, q101_192, q101_194, q101_197, q101_199, q101_201, q101_203, q101_206, q101_207, q101_210, q101_211, h4, m_isWithin, cw, isW_1, isC_2, t0, t1, t2, eq_true x0, eq_true x1, r0, r1, i7, i9, i0, v0, v1, c1, lq 102 97 (by omega) (by omega) (by omega), lq 102 99 (by omega) (by omega) (by omega), Nat.reduceAdd, g1, eq_true z, zCall_some, Option.toList, List.cons_append, List.nil_append, zb_0, zb_1, zem, z01, z11, nI_add, ↓reduceIte, not_true_eq_false, not_false_eq_true, n0T, n1F, n11T, true_or, or_true, false_or]
    · rw [zb_t z]
      simp only [q101_0, q101_1, q101_2, q101_3, q101_6, q101_9, q101_10, q101_11, q101_14, q101_17, q101_18, q101_19, q101_20, q101_23, q101_26, q101_27, q101_28, q101_31, q101_34, q101_35, q101_36, q101_37, q101_38, q101_39, q101_40, q101_43, q101_46, q101_47, q101_48, q101_49, q101_50, q101_52, q101_53, q101_56, q101_59, q101_60, q101_61, q101_120, q101_121, q101_122, q101_124, q101_127, q101_129, q101_132, q101_133, q101_134, q101_136, q101_137, q101_140, q101_143, q101_144, q101_145, q101_146, q101_147, q101_150, q101_152, q101_155, q101_156, q101_157, q101_160, q101_162, q101_165, q101_166, q101_167, q101_170, q101_172, q101_175, q101_176, q101_177, q101_178, q101_181, q101_183, q101_186, q101_187, q101_188, q101_189, q101_192, q101_194, q101_197, q101_199, q101_201, q101_203, q101_206, q101_207, q101_210, q101_211, h4, m_isWithin, cw, isW_1, isC_2, t0, t1, t2, eq_true x0, eq_true x1, r0, r1, i7, i9, i0, v0, v1, c1, lq 102 97 (by omega) (by omega) (by omega), lq 102 99 (by omega) (by omega) (by omega), Nat.reduceAdd, g1, eq_false z, zCall_some, Option.toList, List.cons_append, List.nil_append, zb_0, zb_1, zem, z01, z11, nI_add, ↓reduceIte, not_true_eq_false, not_false_eq_true, n0T, n1F, n11T, true_or, or_true, false_or]
  · have v0 : a 69 (nI k) = nI (vlF tx tn p 0) := c2 0 (by omega)
    have v1 : a 70 (nI k) = nI (vlF tx tn p 1) := c2 1 (by omega)
    have v2 : a 71 (nI k) = nI (vlF tx tn p 2) := c2 2 (by omega)
    obtain ⟨f', a', g1, g2⟩ := m_setReach (sc := sc) (d := d + 1) (j := j) (v := nI (vlF tx tn p 0)) (x := nI (vlF tx tn p 1)) (y := nI (vlF tx tn p 2)) isC_2 hV hR
    have eD : dcS σ (tx p) (vlF tx tn p 0) (vlF tx tn p 1) (vlF tx tn p 2) = srS σ (nI (vlF tx tn p 0)) (nI (vlF tx tn p 1)) (nI (vlF tx tn p 2)) := by unfold dcS; rw [if_neg (by omega), if_pos hx]
    rw [eD]
    rw [hx] at c1
    refine ⟨f', a', ?_, g2⟩
    by_cases z : (srS σ (nI (vlF tx tn p 0)) (nI (vlF tx tn p 1)) (nI (vlF tx tn p 2))).1 < 0
    · rw [zb_f (fun q => q z)]
      simp only [q101_0, q101_1, q101_2, q101_3, q101_6, q101_9, q101_10, q101_11, q101_14, q101_17, q101_18, q101_19, q101_20, q101_23, q101_26, q101_27, q101_28, q101_31, q101_34, q101_35, q101_36, q101_37, q101_38, q101_39, q101_40, q101_43, q101_46, q101_47, q101_48, q101_49, q101_50, q101_52, q101_53, q101_56, q101_59, q101_60, q101_61, q101_120, q101_121, q101_122, q101_124, q101_127, q101_129, q101_132, q101_133, q101_134, q101_136, q101_137, q101_140, q101_143, q101_144, q101_145, q101_146, q101_147, q101_150, q101_152, q101_155, q101_156, q101_157, q101_160, q101_162, q101_165, q101_166, q101_167, q101_170, q101_172, q101_175, q101_176, q101_177, q101_178, q101_181, q101_183, q101_186, q101_187, q101_188, q101_189, q101_192, q101_194, q101_197, q101_199, q101_201, q101_203, q101_206, q101_207, q101_210, q101_211, h4, m_isWithin, cw, isW_1, isC_2, t0, t1, t2, eq_true x0, eq_true x1, eq_true x2, r0, r1, r2, i7, i9, i0, i1, v0, v1, v2, c1, lq 99 97 (by omega) (by omega) (by omega), Nat.reduceAdd, g1, eq_true z, zCall_some, Option.toList, List.cons_append, List.nil_append, zb_0, zb_1, zem, z01, z11, nI_add, ↓reduceIte, not_true_eq_false, not_false_eq_true, n0T, n1F, n11T, true_or, or_true, false_or]
    · rw [zb_t z]
      simp only [q101_0, q101_1, q101_2, q101_3, q101_6, q101_9, q101_10, q101_11, q101_14, q101_17, q101_18, q101_19, q101_20, q101_23, q101_26, q101_27, q101_28, q101_31, q101_34, q101_35, q101_36, q101_37, q101_38, q101_39, q101_40, q101_43, q101_46, q101_47, q101_48, q101_49, q101_50, q101_52, q101_53, q101_56, q101_59, q101_60, q101_61, q101_120, q101_121, q101_122, q101_124, q101_127, q101_129, q101_132, q101_133, q101_134, q101_136, q101_137, q101_140, q101_143, q101_144, q101_145, q101_146, q101_147, q101_150, q101_152, q101_155, q101_156, q101_157, q101_160, q101_162, q101_165, q101_166, q101_167, q101_170, q101_172, q101_175, q101_176, q101_177, q101_178, q101_181, q101_183, q101_186, q101_187, q101_188, q101_189, q101_192, q101_194, q101_197, q101_199, q101_201, q101_203, q101_206, q101_207, q101_210, q101_211, h4, m_isWithin, cw, isW_1, isC_2, t0, t1, t2, eq_true x0, eq_true x1, eq_true x2, r0, r1, r2, i7, i9, i0, i1, v0, v1, v2, c1, lq 99 97 (by omega) (by omega) (by omega), Nat.reduceAdd, g1, eq_false z, zCall_some, Option.toList, List.cons_append, List.nil_append, zb_0, zb_1, zem, z01, z11, nI_add, ↓reduceIte, not_true_eq_false, not_false_eq_true, n0T, n1F, n11T, true_or, or_true, false_or]
  · have v0 : a 69 (nI k) = nI (vlF tx tn p 0) := c2 0 (by omega)
    obtain ⟨f', g1, g2⟩ := m_setHours (sc := sc) (d := d + 1) (j := j) (v := nI (vlF tx tn p 0)) isC_2 hV hR
    have eD : dcS σ (tx p) (vlF tx tn p 0) (vlF tx tn p 1) (vlF tx tn p 2) = hwS σ (nI (vlF tx tn p 0)) := by unfold dcS; rw [if_neg (by omega), if_neg (by omega), if_pos hx]
    rw [eD]
    rw [hx] at c1
    refine ⟨f', a, ?_, g2⟩
    by_cases z : (hwS σ (nI (vlF tx tn p 0))).1 < 0
    · rw [zb_f (fun q => q z)]
      simp only [q101_0, q101_1, q101_2, q101_3, q101_6, q101_9, q101_10, q101_11, q101_14, q101_17, q101_18, q101_19, q101_20, q101_23, q101_26, q101_27, q101_28, q101_31, q101_34, q101_35, q101_36, q101_37, q101_38, q101_39, q101_40, q101_43, q101_46, q101_47, q101_48, q101_49, q101_50, q101_52, q101_53, q101_56, q101_59, q101_60, q101_61, q101_120, q101_121, q101_122, q101_124, q101_127, q101_129, q101_132, q101_133, q101_134, q101_136, q101_137, q101_140, q101_143, q101_144, q101_145, q101_146, q101_147, q101_150, q101_152, q101_155, q101_156, q101_157, q101_160, q101_162, q101_165, q101_166, q101_167, q101_170, q101_172, q101_175, q101_176, q101_177, q101_178, q101_181, q101_183, q101_186, q101_187, q101_188, q101_189, q101_192, q101_194, q101_197, q101_199, q101_201, q101_203, q101_206, q101_207, q101_210, q101_211, h4, m_isWithin, cw, isW_1, isC_2, t0, t1, t2, eq_true x0, eq_true x1, r0, r1, i7, i9, i0, v0, c1, lq 104 97 (by omega) (by omega) (by omega), lq 104 99 (by omega) (by omega) (by omega), lq 104 102 (by omega) (by omega) (by omega), Nat.reduceAdd, g1, eq_true z, zCall_some, Option.toList, List.cons_append, List.nil_append, zb_0, zb_1, zem, z01, z11, nI_add, ↓reduceIte, not_true_eq_false, not_false_eq_true, n0T, n1F, n11T, true_or, or_true, false_or]
    · rw [zb_t z]
      simp only [q101_0, q101_1, q101_2, q101_3, q101_6, q101_9, q101_10, q101_11, q101_14, q101_17, q101_18, q101_19, q101_20, q101_23, q101_26, q101_27, q101_28, q101_31, q101_34, q101_35, q101_36, q101_37, q101_38, q101_39, q101_40, q101_43, q101_46, q101_47, q101_48, q101_49, q101_50, q101_52, q101_53, q101_56, q101_59, q101_60, q101_61, q101_120, q101_121, q101_122, q101_124, q101_127, q101_129, q101_132, q101_133, q101_134, q101_136, q101_137, q101_140, q101_143, q101_144, q101_145, q101_146, q101_147, q101_150, q101_152, q101_155, q101_156, q101_157, q101_160, q101_162, q101_165, q101_166, q101_167, q101_170, q101_172, q101_175, q101_176, q101_177, q101_178, q101_181, q101_183, q101_186, q101_187, q101_188, q101_189, q101_192, q101_194, q101_197, q101_199, q101_201, q101_203, q101_206, q101_207, q101_210, q101_211, h4, m_isWithin, cw, isW_1, isC_2, t0, t1, t2, eq_true x0, eq_true x1, r0, r1, i7, i9, i0, v0, c1, lq 104 97 (by omega) (by omega) (by omega), lq 104 99 (by omega) (by omega) (by omega), lq 104 102 (by omega) (by omega) (by omega), Nat.reduceAdd, g1, eq_false z, zCall_some, Option.toList, List.cons_append, List.nil_append, zb_0, zb_1, zem, z01, z11, nI_add, ↓reduceIte, not_true_eq_false, not_false_eq_true, n0T, n1F, n11T, true_or, or_true, false_or]
  · have v0 : a 69 (nI k) = nI (vlF tx tn p 0) := c2 0 (by omega)
    obtain ⟨f', g1, g2⟩ := m_setRule (sc := sc) (d := d + 1) (j := j) (v := nI (vlF tx tn p 0)) isC_2 hV hR
    have eD : dcS σ (tx p) (vlF tx tn p 0) (vlF tx tn p 1) (vlF tx tn p 2) = ruS σ (nI (vlF tx tn p 0)) := by unfold dcS; rw [if_neg (by omega), if_neg (by omega), if_neg (by omega), if_pos hx]
    rw [eD]
    rw [hx] at c1
    refine ⟨f', a, ?_, g2⟩
    by_cases z : (ruS σ (nI (vlF tx tn p 0))).1 < 0
    · rw [zb_f (fun q => q z)]
      simp only [q101_0, q101_1, q101_2, q101_3, q101_6, q101_9, q101_10, q101_11, q101_14, q101_17, q101_18, q101_19, q101_20, q101_23, q101_26, q101_27, q101_28, q101_31, q101_34, q101_35, q101_36, q101_37, q101_38, q101_39, q101_40, q101_43, q101_46, q101_47, q101_48, q101_49, q101_50, q101_52, q101_53, q101_56, q101_59, q101_60, q101_61, q101_120, q101_121, q101_122, q101_124, q101_127, q101_129, q101_132, q101_133, q101_134, q101_136, q101_137, q101_140, q101_143, q101_144, q101_145, q101_146, q101_147, q101_150, q101_152, q101_155, q101_156, q101_157, q101_160, q101_162, q101_165, q101_166, q101_167, q101_170, q101_172, q101_175, q101_176, q101_177, q101_178, q101_181, q101_183, q101_186, q101_187, q101_188, q101_189, q101_192, q101_194, q101_197, q101_199, q101_201, q101_203, q101_206, q101_207, q101_210, q101_211, h4, m_isWithin, cw, isW_1, isC_2, t0, t1, t2, eq_true x0, eq_true x1, r0, r1, i7, i9, i0, v0, c1, lq 117 97 (by omega) (by omega) (by omega), lq 117 99 (by omega) (by omega) (by omega), lq 117 102 (by omega) (by omega) (by omega), lq 117 104 (by omega) (by omega) (by omega), lq 117 112 (by omega) (by omega) (by omega), Nat.reduceAdd, g1, eq_true z, zCall_some, Option.toList, List.cons_append, List.nil_append, zb_0, zb_1, zem, z01, z11, nI_add, ↓reduceIte, not_true_eq_false, not_false_eq_true, n0T, n1F, n11T, true_or, or_true, false_or]
    · rw [zb_t z]
      simp only [q101_0, q101_1, q101_2, q101_3, q101_6, q101_9, q101_10, q101_11, q101_14, q101_17, q101_18, q101_19, q101_20, q101_23, q101_26, q101_27, q101_28, q101_31, q101_34, q101_35, q101_36, q101_37, q101_38, q101_39, q101_40, q101_43, q101_46, q101_47, q101_48, q101_49, q101_50, q101_52, q101_53, q101_56, q101_59, q101_60, q101_61, q101_120, q101_121, q101_122, q101_124, q101_127, q101_129, q101_132, q101_133, q101_134, q101_136, q101_137, q101_140, q101_143, q101_144, q101_145, q101_146, q101_147, q101_150, q101_152, q101_155, q101_156, q101_157, q101_160, q101_162, q101_165, q101_166, q101_167, q101_170, q101_172, q101_175, q101_176, q101_177, q101_178, q101_181, q101_183, q101_186, q101_187, q101_188, q101_189, q101_192, q101_194, q101_197, q101_199, q101_201, q101_203, q101_206, q101_207, q101_210, q101_211, h4, m_isWithin, cw, isW_1, isC_2, t0, t1, t2, eq_true x0, eq_true x1, r0, r1, i7, i9, i0, v0, c1, lq 117 97 (by omega) (by omega) (by omega), lq 117 99 (by omega) (by omega) (by omega), lq 117 102 (by omega) (by omega) (by omega), lq 117 104 (by omega) (by omega) (by omega), lq 117 112 (by omega) (by omega) (by omega), Nat.reduceAdd, g1, eq_false z, zCall_some, Option.toList, List.cons_append, List.nil_append, zb_0, zb_1, zem, z01, z11, nI_add, ↓reduceIte, not_true_eq_false, not_false_eq_true, n0T, n1F, n11T, true_or, or_true, false_or]
  · have v0 : a 69 (nI k) = nI (vlF tx tn p 0) := c2 0 (by omega)
    obtain ⟨f', g1, g2⟩ := m_setAway (sc := sc) (d := d) (j := j) (v := nI (vlF tx tn p 0)) (b := nI 1) isC_2 hV hR
    have eD : dcS σ (tx p) (vlF tx tn p 0) (vlF tx tn p 1) (vlF tx tn p 2) = awS σ (nI (vlF tx tn p 0)) (nI 1) := by unfold dcS; rw [if_neg (by omega), if_neg (by omega), if_neg (by omega), if_neg (by omega), if_pos hx]
    rw [eD]
    rw [hx] at c1
    refine ⟨f', a, ?_, g2⟩
    by_cases z : (awS σ (nI (vlF tx tn p 0)) (nI 1)).1 < 0
    · rw [zb_f (fun q => q z)]
      simp only [q101_0, q101_1, q101_2, q101_3, q101_6, q101_9, q101_10, q101_11, q101_14, q101_17, q101_18, q101_19, q101_20, q101_23, q101_26, q101_27, q101_28, q101_31, q101_34, q101_35, q101_36, q101_37, q101_38, q101_39, q101_40, q101_43, q101_46, q101_47, q101_48, q101_49, q101_50, q101_52, q101_53, q101_56, q101_59, q101_60, q101_61, q101_120, q101_121, q101_122, q101_124, q101_127, q101_129, q101_132, q101_133, q101_134, q101_136, q101_137, q101_140, q101_143, q101_144, q101_145, q101_146, q101_147, q101_150, q101_152, q101_155, q101_156, q101_157, q101_160, q101_162, q101_165, q101_166, q101_167, q101_170, q101_172, q101_175, q101_176, q101_177, q101_178, q101_181, q101_183, q101_186, q101_187, q101_188, q101_189, q101_192, q101_194, q101_197, q101_199, q101_201, q101_203, q101_206, q101_207, q101_210, q101_211, h4, m_isWithin, cw, isW_1, isC_2, t0, t1, t2, eq_true x0, eq_true x1, r0, r1, i7, i9, i0, v0, c1, Nat.reduceAdd, g1, eq_true z, zCall_some, Option.toList, List.cons_append, List.nil_append, zb_0, zb_1, zem, z01, z11, nI_add, ↓reduceIte, not_true_eq_false, not_false_eq_true, n0T, n1F, n11T, true_or, or_true, false_or]
    · rw [zb_t z]
      simp only [q101_0, q101_1, q101_2, q101_3, q101_6, q101_9, q101_10, q101_11, q101_14, q101_17, q101_18, q101_19, q101_20, q101_23, q101_26, q101_27, q101_28, q101_31, q101_34, q101_35, q101_36, q101_37, q101_38, q101_39, q101_40, q101_43, q101_46, q101_47, q101_48, q101_49, q101_50, q101_52, q101_53, q101_56, q101_59, q101_60, q101_61, q101_120, q101_121, q101_122, q101_124, q101_127, q101_129, q101_132, q101_133, q101_134, q101_136, q101_137, q101_140, q101_143, q101_144, q101_145, q101_146, q101_147, q101_150, q101_152, q101_155, q101_156, q101_157, q101_160, q101_162, q101_165, q101_166, q101_167, q101_170, q101_172, q101_175, q101_176, q101_177, q101_178, q101_181, q101_183, q101_186, q101_187, q101_188, q101_189, q101_192, q101_194, q101_197, q101_199, q101_201, q101_203, q101_206, q101_207, q101_210, q101_211, h4, m_isWithin, cw, isW_1, isC_2, t0, t1, t2, eq_true x0, eq_true x1, r0, r1, i7, i9, i0, v0, c1, Nat.reduceAdd, g1, eq_false z, zCall_some, Option.toList, List.cons_append, List.nil_append, zb_0, zb_1, zem, z01, z11, nI_add, ↓reduceIte, not_true_eq_false, not_false_eq_true, n0T, n1F, n11T, true_or, or_true, false_or]
  · have v0 : a 69 (nI k) = nI (vlF tx tn p 0) := c2 0 (by omega)
    obtain ⟨f', g1, g2⟩ := m_setAway (sc := sc) (d := d) (j := j) (v := nI (vlF tx tn p 0)) (b := nI 0) isC_2 hV hR
    have eD : dcS σ (tx p) (vlF tx tn p 0) (vlF tx tn p 1) (vlF tx tn p 2) = awS σ (nI (vlF tx tn p 0)) (nI 0) := by unfold dcS; rw [if_neg (by omega), if_neg (by omega), if_neg (by omega), if_neg (by omega), if_neg (by omega)]
    rw [eD]
    rw [hx] at c1
    refine ⟨f', a, ?_, g2⟩
    by_cases z : (awS σ (nI (vlF tx tn p 0)) (nI 0)).1 < 0
    · rw [zb_f (fun q => q z)]
      simp only [q101_0, q101_1, q101_2, q101_3, q101_6, q101_9, q101_10, q101_11, q101_14, q101_17, q101_18, q101_19, q101_20, q101_23, q101_26, q101_27, q101_28, q101_31, q101_34, q101_35, q101_36, q101_37, q101_38, q101_39, q101_40, q101_43, q101_46, q101_47, q101_48, q101_49, q101_50, q101_52, q101_53, q101_56, q101_59, q101_60, q101_61, q101_120, q101_121, q101_122, q101_124, q101_127, q101_129, q101_132, q101_133, q101_134, q101_136, q101_137, q101_140, q101_143, q101_144, q101_145, q101_146, q101_147, q101_150, q101_152, q101_155, q101_156, q101_157, q101_160, q101_162, q101_165, q101_166, q101_167, q101_170, q101_172, q101_175, q101_176, q101_177, q101_178, q101_181, q101_183, q101_186, q101_187, q101_188, q101_189, q101_192, q101_194, q101_197, q101_199, q101_201, q101_203, q101_206, q101_207, q101_210, q101_211, h4, m_isWithin, cw, isW_1, isC_2, t0, t1, t2, eq_true x0, eq_true x1, r0, r1, i7, i9, i0, v0, c1, lq 112 97 (by omega) (by omega) (by omega), lq 112 99 (by omega) (by omega) (by omega), lq 112 102 (by omega) (by omega) (by omega), lq 112 104 (by omega) (by omega) (by omega), Nat.reduceAdd, g1, eq_true z, zCall_some, Option.toList, List.cons_append, List.nil_append, zb_0, zb_1, zem, z01, z11, nI_add, ↓reduceIte, not_true_eq_false, not_false_eq_true, n0T, n1F, n11T, true_or, or_true, false_or]
    · rw [zb_t z]
      simp only [q101_0, q101_1, q101_2, q101_3, q101_6, q101_9, q101_10, q101_11, q101_14, q101_17, q101_18, q101_19, q101_20, q101_23, q101_26, q101_27, q101_28, q101_31, q101_34, q101_35, q101_36, q101_37, q101_38, q101_39, q101_40, q101_43, q101_46, q101_47, q101_48, q101_49, q101_50, q101_52, q101_53, q101_56, q101_59, q101_60, q101_61, q101_120, q101_121, q101_122, q101_124, q101_127, q101_129, q101_132, q101_133, q101_134, q101_136, q101_137, q101_140, q101_143, q101_144, q101_145, q101_146, q101_147, q101_150, q101_152, q101_155, q101_156, q101_157, q101_160, q101_162, q101_165, q101_166, q101_167, q101_170, q101_172, q101_175, q101_176, q101_177, q101_178, q101_181, q101_183, q101_186, q101_187, q101_188, q101_189, q101_192, q101_194, q101_197, q101_199, q101_201, q101_203, q101_206, q101_207, q101_210, q101_211, h4, m_isWithin, cw, isW_1, isC_2, t0, t1, t2, eq_true x0, eq_true x1, r0, r1, i7, i9, i0, v0, c1, lq 112 97 (by omega) (by omega) (by omega), lq 112 99 (by omega) (by omega) (by omega), lq 112 102 (by omega) (by omega) (by omega), lq 112 104 (by omega) (by omega) (by omega), Nat.reduceAdd, g1, eq_false z, zCall_some, Option.toList, List.cons_append, List.nil_append, zb_0, zb_1, zem, z01, z11, nI_add, ↓reduceIte, not_true_eq_false, not_false_eq_true, n0T, n1F, n11T, true_or, or_true, false_or]
/-- what read changes -/
def FrV (f f' : zF) (a a' : zA) : Prop := (∀ k, (k < 2 ∨ (22 < k ∧ k ≠ 65)) → f' k = f k) ∧ ∀ k, (k < 2 ∨ (22 < k ∧ k < 66) ∨ 71 < k) → a' k = a k
theorem dnF_s (tx : Nat → Nat) (tn : Nat) (σ : Nat → Nat) (i : Nat) : dnF tx tn σ (i + 1) = ((if (dcS (dnF tx tn σ i).2 (tx (psN tx tn i)) (vlF tx tn (psN tx tn i) 0) (vlF tx tn (psN tx tn i) 1) (vlF tx tn (psN tx tn i) 2)).1 < 0 then (dnF tx tn σ i).1 else (dnF tx tn σ i).1 + 1), (dcS (dnF tx tn σ i).2 (tx (psN tx tn i)) (vlF tx tn (psN tx tn i) 0) (vlF tx tn (psN tx tn i) 1) (vlF tx tn (psN tx tn i) 2)).2) := rfl
theorem x_read {sc : Int32 × (Int32 → Int32)} {f : zF} {a : zA} {j : zJ} {d tn : Nat} {tx : Nat → Nat} {σ : Nat → Nat} (hW : WR 1 σ f a) (hV : VS σ) (hT : TX tx tn f a) (hX : VX tx tn) :
    ∃ (f' : zF) (a' : zA), cf sc (d + 5) 63 [.ref 0] f a j = some (some (.int (rdS tx tn σ).1), f', a', j) ∧ WR 1 (rdS tx tn σ).2 f' a' ∧ VS (rdS tx tn σ).2 ∧ f' 65 1 = nI 0 ∧ FrV f f' a a' := by
  obtain ⟨f1, a1, s1, s2, s3, s4⟩ := m_parse (sc := sc) (d := d) (j := j) hX hT
  have hW1 : WR 1 σ (zuF f1 65 1 (nI 0)) a1 := hW.lo (fun k hk => by rw [zuF_nk (by omega), s4.1 k (by omega)]) (fun k hk => s4.2.2 k (by omega))
  have hF1 : FrV f (zuF f1 65 1 (nI 0)) a a1 := ⟨fun k hk => by rw [zuF_nk (by omega), s4.1 k (by omega)], fun k hk => s4.2.2 k (by omega)⟩
  rw [en63]
  unfold rdS
  by_cases hp : (prF tx tn 12 0).1 = 0
  · rw [if_pos hp]
    rw [if_pos hp] at s1
    obtain ⟨g1, g2, g3⟩ := s2 hp
    have c0 : (-1 : Int32) < 0 := by decide
    have key := zLoopP (n := (prF tx tn 12 0).2) (g := fun s : (Nat × zF × zA) => rn sc (cf sc (d + 4)) 63 29 [.ref 0, .int (-1), .int (nI (dnF tx tn σ s.1).1), .int (nI s.1)] [] s.2.1 s.2.2 j) (P := fun i s => s.1 = i ∧ WR 1 (dnF tx tn σ i).2 s.2.1 s.2.2 ∧ VS (dnF tx tn σ i).2 ∧ Fr2 (zuF f1 65 1 (nI 0)) s.2.1 a1 s.2.2) (by
      intro i s hi hP
      obtain ⟨i', f2, a2⟩ := s
      obtain ⟨rfl, hW2, hV2, hF2⟩ := hP
      dsimp only at hW2 hV2 hF2 hi
      obtain ⟨k1, k2, k3⟩ := g3 i' hi
      have k1' : CLF tx tn i' (psN tx tn i') a2 := ⟨by rw [hF2.2 67 (by omega)]; exact k1.1, fun q hq => by rw [hF2.2 (69 + q) (by omega)]; exact k1.2 q hq⟩
      have e4 : f2 65 4 = nI (prF tx tn 12 0).2 := by rw [hF2.1 65 (by omega), zuF_ni (by omega)]; exact g1
      obtain ⟨f3, a3, u1, u2⟩ := m_clauseDone (sc := sc) (d := d) (j := j) e4 hi g2 k1' k3 hV2.vc hW2.cr
      obtain ⟨w1, w2, w3⟩ := u2.wr hW2 hV2
      have c1 : ¬ nI (prF tx tn 12 0).2 ≤ nI i' := nI_ge hi (by omega)
      refine ⟨(i' + 1, f3, a3), ⟨rfl, by rw [dnF_s]; exact w1, by rw [dnF_s]; exact w2, ⟨fun k hk => by dsimp only; rw [w3.1 k hk, hF2.1 k hk], fun k hk => by dsimp only; rw [w3.2 k hk, hF2.2 k hk]⟩⟩, ?_⟩
      dsimp only
      rw [q63_29, dnF_s]
      by_cases z : (dcS (dnF tx tn σ i').2 (tx (psN tx tn i')) (vlF tx tn (psN tx tn i') 0) (vlF tx tn (psN tx tn i') 1) (vlF tx tn (psN tx tn i') 2)).1 < 0
      · simp only [q63_0, q63_1, q63_4, q63_7, q63_8, q63_9, q63_12, q63_13, q63_16, q63_17, q63_20, q63_22, q63_23, q63_24, q63_25, q63_26, q63_27, q63_28, q63_30, q63_31, q63_34, q63_37, q63_40, q63_41, q63_42, q63_45, q63_48, q63_51, q63_54, q63_57, q63_58, e4, c1, u1, eq_true z, zCall_some, Option.toList, List.cons_append, List.nil_append, zb_0, zb_1, zem, z01, z11, nI_add, ↓reduceIte, not_true_eq_false, not_false_eq_true, n0T, n1F, n11T, true_or, or_true, false_or]
      · simp only [q63_0, q63_1, q63_4, q63_7, q63_8, q63_9, q63_12, q63_13, q63_16, q63_17, q63_20, q63_22, q63_23, q63_24, q63_25, q63_26, q63_27, q63_28, q63_30, q63_31, q63_34, q63_37, q63_40, q63_41, q63_42, q63_45, q63_48, q63_51, q63_54, q63_57, q63_58, e4, c1, u1, eq_false z, zCall_some, Option.toList, List.cons_append, List.nil_append, zb_0, zb_1, zem, z01, z11, nI_add, ↓reduceIte, not_true_eq_false, not_false_eq_true, n0T, n1F, n11T, true_or, or_true, false_or]) (0, zuF f1 65 1 (nI 0), a1) ⟨rfl, hW1, hV, Fr2.rf⟩
    obtain ⟨⟨i, f2, a2⟩, ⟨hi, hW2, hV2, hF2⟩, e⟩ := key
    dsimp only at hW2 hV2 hF2 e hi
    subst hi
    have c1 : nI (prF tx tn 12 0).2 ≤ nI (prF tx tn 12 0).2 := nI_le (Nat.le_refl _) (by omega)
    have e4 : f2 65 4 = nI (prF tx tn 12 0).2 := by rw [hF2.1 65 (by omega), zuF_ni (by omega)]; exact g1
    refine ⟨f2, a2, ?_, hW2, hV2, by rw [hF2.1 65 (by omega)]; exact zuF_eq, ⟨fun k hk => by rw [hF2.1 k (by omega), hF1.1 k hk], fun k hk => by rw [hF2.2 k (by omega), hF1.2 k hk]⟩⟩
    simp only [q63_0, q63_1, q63_4, q63_7, q63_8, q63_9, q63_12, q63_13, q63_16, q63_17, q63_20, q63_22, q63_23, q63_24, q63_25, q63_26, q63_27, q63_28, q63_30, q63_31, q63_34, q63_37, q63_40, q63_41, q63_42, q63_45, q63_48, q63_51, q63_54, q63_57, q63_58, s1, c0, zCall_some, Option.toList, List.cons_append, List.nil_append, zb_0, zb_1, zem, z01, z11, nI_add, ↓reduceIte, not_true_eq_false, not_false_eq_true, n0T, n1F, n11T, true_or, or_true, false_or]
    refine Eq.trans (show _ = _ from e) ?_
    simp only [q63_29, q63_30, q63_31, q63_34, q63_37, q63_57, q63_58, e4, c1, zCall_some, Option.toList, List.cons_append, List.nil_append, zb_0, zb_1, zem, z01, z11, nI_add, ↓reduceIte, not_true_eq_false, not_false_eq_true, n0T, n1F, n11T, true_or, or_true, false_or]
  · rw [if_neg hp]
    rw [if_neg hp] at s1
    have c0 : ¬ nI (prF tx tn 12 0).2 < 0 := nI_pos (by omega)
    refine ⟨zuF f1 65 1 (nI 0), a1, ?_, hW1, hV, zuF_eq, hF1⟩
    simp only [q63_0, q63_1, q63_4, q63_7, q63_8, q63_9, q63_12, q63_13, q63_16, q63_17, q63_20, q63_22, q63_23, q63_24, q63_25, q63_26, q63_27, q63_28, q63_30, q63_31, q63_34, q63_37, q63_40, q63_41, q63_42, q63_45, q63_48, q63_51, q63_54, q63_57, q63_58, s1, c0, zCall_some, Option.toList, List.cons_append, List.nil_append, zb_0, zb_1, zem, z01, z11, nI_add, ↓reduceIte, not_true_eq_false, not_false_eq_true, n0T, n1F, n11T, true_or, or_true, false_or]
