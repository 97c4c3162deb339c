/-! ===== the class: looked, fits, odds, mean, over ===== -/
theorem m_firstOtherwise {sc : Int32 × (Int32 → Int32)} {f : zF} {a : zA} {j : zJ} {d r cnt p q : Nat} {σ hv : Nat → Nat} (hr : isR r) (hl : σ cnt ≤ zLn (r + 1)) (hR : RW r cnt p q σ f a) (hin : ∀ k, k < σ cnt → σ (p + k) < 8 ∧ σ (q + k) ≤ 1000) (hh : ∀ k, k < σ cnt → a 59 (nI (σ (p + k))) = nI (hv (σ (p + k))) ∧ hv (σ (p + k)) ≤ 1000) : cf sc (d + 4) 105 [.ref r, .ref 54] f a j = some (some (.int (foS σ hv p q 0 (σ cnt))), f, a, j) := by
  have h360 := zLn_le (r + 1)
  rw [en105, q105_0, q105_1]
  have key : ∀ m k, k + m = σ cnt → rn sc (cf sc (d + 3)) 105 2 [.ref r, .ref 54, .int (nI k)] [] f a j = some (some (.int (foS σ hv p q k m)), f, a, j) := by
    intro m
    induction m with
    | zero =>
      intro k hk
      have c1 : nI (σ cnt) ≤ nI k := nI_le (by omega) (by omega)
      simp only [q105_2, q105_3, q105_4, q105_7, q105_37, q105_39, hr, hR.1, c1, foS, zCall_some, Option.toList, List.cons_append, List.nil_append, zb_0, zb_1, zem, z01, z11, nI_add, ↓reduceIte, not_true_eq_false, not_false_eq_true, n0T, n1F, n11T, true_or, or_true, false_or]
    | succ m ih =>
      intro k hk
      have hkc : k < σ cnt := by omega
      have c1 : ¬ nI (σ cnt) ≤ nI k := nI_ge hkc (by omega)
      have ix1 : zIx 21 (r + 1) (nI k) := ixR1 hr (by omega)
      have ix2 : zIx 21 (r + 2) (nI k) := ixR2 hr (by omega)
      obtain ⟨h1, h2⟩ := hin k hkc
      obtain ⟨h3, h4⟩ := hh k hkc
      obtain ⟨r1, r2⟩ := hR.2 k hkc
      have e : (nI (hv (σ (p + k))) = nI (σ (q + k))) = (hv (σ (p + k)) = σ (q + k)) := propext (nI_eq (by omega) (by omega))
      rw [q105_2]
      show _ = some (some (Value.int (if hv (σ (p + k)) = σ (q + k) then foS σ hv p q (k + 1) m else nI k)), f, a, j)
      by_cases h : hv (σ (p + k)) = σ (q + k)
      · rw [if_pos h, ← ih (k + 1) (by omega)]
        simp only [q105_0, q105_1, q105_3, q105_4, q105_7, q105_10, q105_11, q105_12, q105_15, q105_16, q105_17, q105_20, q105_21, q105_24, q105_25, q105_26, q105_29, q105_30, q105_31, q105_34, q105_37, q105_39, hr, hR.1, c1, ix1, ix2, m_hoursOf h1, r1, r2, h3, e, h, zCall_some, Option.toList, List.cons_append, List.nil_append, zb_0, zb_1, zem, z01, z11, nI_add, ↓reduceIte, not_true_eq_false, not_false_eq_true, n0T, n1F, n11T, true_or, or_true, false_or]
      · rw [if_neg h]
        simp only [q105_0, q105_1, q105_3, q105_4, q105_7, q105_10, q105_11, q105_12, q105_15, q105_16, q105_17, q105_20, q105_21, q105_24, q105_25, q105_26, q105_29, q105_30, q105_31, q105_34, q105_37, q105_39, hr, hR.1, c1, ix1, ix2, m_hoursOf h1, r1, r2, h3, e, h, zCall_some, Option.toList, List.cons_append, List.nil_append, zb_0, zb_1, zem, z01, z11, nI_add, ↓reduceIte, not_true_eq_false, not_false_eq_true, n0T, n1F, n11T, true_or, or_true, false_or]
  exact key (σ cnt) 0 (by omega)
theorem isR_7 : isR 7 := Or.inl rfl
theorem isR_11 : isR 11 := Or.inr (Or.inl rfl)
theorem isR_15 : isR 15 := Or.inr (Or.inr (Or.inl rfl))
theorem isR_19 : isR 19 := Or.inr (Or.inr (Or.inr (Or.inl rfl)))
theorem x_looked {sc : Int32 × (Int32 → Int32)} {f : zF} {a : zA} {j : zJ} {d : Nat} {σ : Nat → Nat} (hW : WR 1 σ f a) (hV : VS σ) : ∃ (f' : zF) (a' : zA), cf sc (d + 7) 84 [.ref 0] f a j = some (some (.int (foS σ (hvOf σ (σ 3) true) 102 110 0 (σ 7))), f', a', j) ∧ FrT f f' a a' := by
  have hVR := hV.1.1
  have hn := hVR.1
  obtain ⟨hb1, hb2⟩ := hV.2.2.2.2
  obtain ⟨f1, a1, t1, t2, t3⟩ := m_turnsNow (sc := sc) (d := d) (j := j) hW hV
  have hW1 := hW.fr isW_1 t3
  have hfo := m_firstOtherwise (sc := sc) (d := d + 2) (f := f1) (a := a1) (j := j) (r := 19) (cnt := 7) (p := 102) (q := 110) (σ := σ) (hv := hvOf σ (σ 3) true) isR_19 (by show σ 7 ≤ 8; omega) hW1.2.2.2.2 (fun k hk => by have := hb2 k hk; omega) (fun k hk => ⟨t2.2.2.2.2.2.2.2.2.1 _ (hb2 k hk).1, by have := hv_97 hVR (tr := true) (fun _ => hV.2.1) (hb2 k hk).1; omega⟩)
  refine ⟨f1, a1, ?_, t3⟩
  rw [en84]
  simp only [q84_0, q84_1, q84_4, q84_7, q84_8, q84_11, q84_14, isW_1, Nat.reduceAdd, t1, hfo, zCall_some, Option.toList, List.cons_append, List.nil_append, zb_0, zb_1, zem, z01, z11, nI_add, ↓reduceIte, not_true_eq_false, not_false_eq_true, n0T, n1F, n11T, true_or, or_true, false_or]
theorem m_fitBy {sc : Int32 × (Int32 → Int32)} {f : zF} {a : zA} {j : zJ} {d h : Nat} {σ : Nat → Nat} (hW : WR 1 σ f a) (hV : VS σ) (hh : h ≤ 97) : ∃ (f' : zF) (a' : zA), cf sc (d + 6) 100 [.ref 0, .int (nI h)] f a j = some (some (.ref 54), f', a', j) ∧ cf sc (d + 6) 105 [.ref 11, .ref 54] f' a' j = some (some (.int (foS σ (hvOf (zup σ 1 h) (σ 3) false) 76 81 0 (σ 5))), f', a', j) ∧ FrT f f' a a' := by
  have hVR := hV.1.1
  have hn := hVR.1
  obtain ⟨hb1, hb2⟩ := hV.2.2.1
  obtain ⟨f1, a1, t1, t2, t3⟩ := m_turnsWere (sc := sc) (d := d) (j := j) hW hV hh
  have hW1 := hW.fr isW_1 t3
  have z0 : zup σ 1 h 0 = σ 0 := zup_ne (by omega)
  have hVu : VR (zup σ 1 h) := hVR.up (fun i q _ _ => zup_ne q) (by rw [zup_eq]; exact hh)
  have hfo := m_firstOtherwise (sc := sc) (d := d + 2) (f := f1) (a := a1) (j := j) (r := 11) (cnt := 5) (p := 76) (q := 81) (σ := σ) (hv := hvOf (zup σ 1 h) (σ 3) false) isR_11 (by show σ 5 ≤ 5; omega) hW1.2.2.1 (fun k hk => by have := hb2 k hk; omega) (fun k hk => ⟨t2.2.2.2.2.2.2.2.2.1 _ (by rw [z0]; exact (hb2 k hk).1), by have := hv_97 hVu (w := σ 3) (tr := false) (fun q => by cases q) (g := σ (76 + k)) (by rw [z0]; exact (hb2 k hk).1); omega⟩)
  exact ⟨f1, a1, t1, hfo, t3⟩
theorem x_fits {sc : Int32 × (Int32 → Int32)} {f : zF} {a : zA} {j : zJ} {d : Nat} {σ : Nat → Nat} {what : Int32} (hW : WR 1 σ f a) (hV : VS σ) : ∃ (f' : zF) (a' : zA), cf sc (d + 7) 78 [.ref 0, .int what] f a j = some (some (.int (sFits σ what)), f', a', j) ∧ FrT f f' a a' := by
  rw [en78]
  unfold sFits
  by_cases hb : zBtw what 0 1
  · rw [if_pos hb]
    have key := zLoopP (n := 89) (g := fun s : (Nat × zF × zA) => rn sc (cf sc (d + 6)) 78 20 [.ref 0, .int what, .int (nI (ftN σ s.1)), .int (ftL σ s.1), .int (nI (8 + s.1))] [] s.2.1 s.2.2 j) (P := fun i s => s.1 = i ∧ FrT f s.2.1 a s.2.2) (by
      intro i s hi hP
      obtain ⟨i', f1, a1⟩ := s
      obtain ⟨rfl, hF⟩ := hP
      dsimp only at hF hi
      have hW1 := hW.fr isW_1 hF
      obtain ⟨f2, a2, t1, t2, t3⟩ := m_fitBy (sc := sc) (d := d) (j := j) (h := 8 + i') hW1 hV (by omega)
      refine ⟨(i' + 1, f2, a2), ⟨rfl, hF.tr t3⟩, ?_⟩
      have c1 : ¬ nI 96 < nI (8 + i') := nI_nlt (by omega) (by omega)
      have en : ftN σ (i' + 1) = if fitB σ (8 + i') = true then ftN σ i' + 1 else ftN σ i' := rfl
      have el : ftL σ (i' + 1) = if fitB σ (8 + i') = true then (if ftL σ i' = -5 then nI (8 + i') else ftL σ i') else ftL σ i' := rfl
      dsimp only
      rw [q78_20, en, el]
      unfold fitB
      by_cases hz : foS σ (hvOf (zup σ 1 (8 + i')) (σ 3) false) 76 81 0 (σ 5) = -5
      · by_cases h5 : ftL σ i' = -5
        · simp only [q78_0, q78_1, q78_2, q78_3, q78_6, q78_9, q78_10, q78_11, q78_12, q78_13, q78_15, q78_16, q78_18, q78_22, q78_24, q78_27, q78_28, q78_31, q78_34, q78_35, q78_37, q78_40, q78_43, q78_45, q78_48, q78_51, q78_52, q78_54, q78_57, q78_59, q78_62, q78_63, q78_64, q78_67, q78_70, q78_71, q78_74, q78_75, q78_78, q78_79, isW_1, Nat.reduceAdd, c1, t1, t2, hz, h5, decide_true, Nat.add_assoc, zCall_some, Option.toList, List.cons_append, List.nil_append, zb_0, zb_1, zem, z01, z11, nI_add, ↓reduceIte, not_true_eq_false, not_false_eq_true, n0T, n1F, n11T, true_or, or_true, false_or]
        · simp only [q78_0, q78_1, q78_2, q78_3, q78_6, q78_9, q78_10, q78_11, q78_12, q78_13, q78_15, q78_16, q78_18, q78_22, q78_24, q78_27, q78_28, q78_31, q78_34, q78_35, q78_37, q78_40, q78_43, q78_45, q78_48, q78_51, q78_52, q78_54, q78_57, q78_59, q78_62, q78_63, q78_64, q78_67, q78_70, q78_71, q78_74, q78_75, q78_78, q78_79, isW_1, Nat.reduceAdd, c1, t1, t2, hz, h5, decide_true, Nat.add_assoc, zCall_some, Option.toList, List.cons_append, List.nil_append, zb_0, zb_1, zem, z01, z11, nI_add, ↓reduceIte, not_true_eq_false, not_false_eq_true, n0T, n1F, n11T, true_or, or_true, false_or]
      · simp only [q78_0, q78_1, q78_2, q78_3, q78_6, q78_9, q78_10, q78_11, q78_12, q78_13, q78_15, q78_16, q78_18, q78_22, q78_24, q78_27, q78_28, q78_31, q78_34, q78_35, q78_37, q78_40, q78_43, q78_45, q78_48, q78_51, q78_52, q78_54, q78_57, q78_59, q78_62, q78_63, q78_64, q78_67, q78_70, q78_71, q78_74, q78_75, q78_78, q78_79, isW_1, Nat.reduceAdd, c1, t1, t2, hz, decide_false, Bool.false_eq_true, Nat.add_assoc, zCall_some, Option.toList, List.cons_append, List.nil_append, zb_0, zb_1, zem, z01, z11, nI_add, ↓reduceIte, not_true_eq_false, not_false_eq_true, n0T, n1F, n11T, true_or, or_true, false_or]) (0, f, a) ⟨rfl, FrT.rf⟩
    obtain ⟨⟨i, f1, a1⟩, ⟨hi, hF⟩, e⟩ := key
    dsimp only at hF e hi
    subst hi
    refine ⟨f1, a1, ?_, hF⟩
    have c1 : nI 96 < nI (8 + 89) := nI_lt (by omega) (by omega)
    simp only [q78_0, q78_1, q78_2, q78_3, q78_6, q78_9, q78_10, q78_11, q78_12, q78_13, q78_15, q78_16, q78_18, q78_22, q78_24, q78_27, q78_28, q78_31, q78_34, q78_35, q78_37, q78_40, q78_43, q78_45, q78_48, q78_51, q78_52, q78_54, q78_57, q78_59, q78_62, q78_63, q78_64, q78_67, q78_70, q78_71, q78_74, q78_75, q78_78, q78_79, m_isWithin, eq_true hb, zCall_some, Option.toList, List.cons_append, List.nil_append, zb_0, zb_1, zem, z01, z11, nI_add, ↓reduceIte, not_true_eq_false, not_false_eq_true, n0T, n1F, n11T, true_or, or_true, false_or]
    refine Eq.trans (show _ = _ from e) ?_
    by_cases h0 : what = nI 0
    · subst h0
      simp only [q78_0, q78_1, q78_2, q78_3, q78_6, q78_9, q78_10, q78_11, q78_12, q78_13, q78_15, q78_16, q78_18, q78_20, q78_22, q78_24, q78_27, q78_28, q78_31, q78_34, q78_35, q78_37, q78_40, q78_43, q78_45, q78_48, q78_51, q78_52, q78_54, q78_57, q78_59, q78_62, q78_63, q78_64, q78_67, q78_70, q78_71, q78_74, q78_75, q78_78, q78_79, c1, zCall_some, Option.toList, List.cons_append, List.nil_append, zb_0, zb_1, zem, z01, z11, nI_add, ↓reduceIte, not_true_eq_false, not_false_eq_true, n0T, n1F, n11T, true_or, or_true, false_or]
    · have h0' : ¬ what = 0 := h0
      simp only [q78_0, q78_1, q78_2, q78_3, q78_6, q78_9, q78_10, q78_11, q78_12, q78_13, q78_15, q78_16, q78_18, q78_20, q78_22, q78_24, q78_27, q78_28, q78_31, q78_34, q78_35, q78_37, q78_40, q78_43, q78_45, q78_48, q78_51, q78_52, q78_54, q78_57, q78_59, q78_62, q78_63, q78_64, q78_67, q78_70, q78_71, q78_74, q78_75, q78_78, q78_79, c1, h0, h0', zCall_some, Option.toList, List.cons_append, List.nil_append, zb_0, zb_1, zem, z01, z11, nI_add, ↓reduceIte, not_true_eq_false, not_false_eq_true, n0T, n1F, n11T, true_or, or_true, false_or]
  · rw [if_neg hb]
    refine ⟨f, a, ?_, FrT.rf⟩
    simp only [q78_0, q78_1, q78_2, q78_3, q78_6, q78_9, q78_10, q78_11, q78_12, q78_13, q78_15, q78_16, q78_18, q78_20, q78_22, q78_24, q78_27, q78_28, q78_31, q78_34, q78_35, q78_37, q78_40, q78_43, q78_45, q78_48, q78_51, q78_52, q78_54, q78_57, q78_59, q78_62, q78_63, q78_64, q78_67, q78_70, q78_71, q78_74, q78_75, q78_78, q78_79, m_isWithin, eq_false hb, zCall_some, Option.toList, List.cons_append, List.nil_append, zb_0, zb_1, zem, z01, z11, nI_add, ↓reduceIte, not_true_eq_false, not_false_eq_true, n0T, n1F, n11T, true_or, or_true, false_or]
theorem m_gcd {sc : Int32 × (Int32 → Int32)} {f : zF} {a : zA} {j : zJ} {d x y : Nat} (hx : x < 2 ^ 31) (hy : y ≤ 1000) : cf sc (d + 1) 97 [.int (nI x), .int (nI y)] f a j = some (some (.int (nI (Nat.gcd x y))), f, a, j) := by
  rw [en97]
  have key : ∀ (n y1 x1 i : Nat) (v0 v1 v5 : Value), y1 ≤ n → n ≤ 1000 → x1 < 2 ^ 31 → i + n ≤ 2000 → rn sc (cf sc d) 97 7 [v0, v1, .int (nI x1), .int (nI y1), .int (nI i), v5] [] f a j = some (some (.int (nI (Nat.gcd x1 y1))), f, a, j) := by
    intro n
    induction n with
    | zero =>
      intro y1 x1 i v0 v1 v5 h1 h2 h3 h4
      have e : y1 = 0 := by omega
      subst e
      have c1 : ¬ nI 1000000 ≤ nI i := nI_ge (by omega) (by omega)
      rw [Nat.gcd_zero_right]
      simp only [q97_0, q97_1, q97_2, q97_3, q97_4, q97_5, q97_7, q97_9, q97_12, q97_15, q97_16, q97_19, q97_20, q97_21, q97_22, q97_24, q97_25, q97_26, q97_28, q97_29, q97_32, q97_35, q97_36, c1, zCall_some, Option.toList, List.cons_append, List.nil_append, zb_0, zb_1, zem, z01, z11, nI_add, ↓reduceIte, not_true_eq_false, not_false_eq_true, n0T, n1F, n11T, true_or, or_true, false_or]
    | succ n ih =>
      intro y1 x1 i v0 v1 v5 h1 h2 h3 h4
      have c1 : ¬ nI 1000000 ≤ nI i := nI_ge (by omega) (by omega)
      rcases Nat.eq_zero_or_pos y1 with e | e
      · subst e
        rw [Nat.gcd_zero_right]
        simp only [q97_0, q97_1, q97_2, q97_3, q97_4, q97_5, q97_7, q97_9, q97_12, q97_15, q97_16, q97_19, q97_20, q97_21, q97_22, q97_24, q97_25, q97_26, q97_28, q97_29, q97_32, q97_35, q97_36, c1, zCall_some, Option.toList, List.cons_append, List.nil_append, zb_0, zb_1, zem, z01, z11, nI_add, ↓reduceIte, not_true_eq_false, not_false_eq_true, n0T, n1F, n11T, true_or, or_true, false_or]
      · have hm := Nat.mod_lt x1 e
        have z0 : nI y1 ≠ 0 := nI_ne0 e (by omega)
        have z1 : ¬ nI y1 = 0 := z0
        have er : nI x1 - nI x1 / nI y1 * nI y1 = nI (x1 % y1) := pk_rem h3 e (by omega)
        have eg : Nat.gcd x1 y1 = Nat.gcd y1 (x1 % y1) := by rw [Nat.gcd_comm x1 y1, Nat.gcd_rec, Nat.gcd_comm]
        rw [eg, ← ih (x1 % y1) y1 (i + 1) v0 v1 (.int (nI (x1 % y1))) (by omega) (by omega) (by omega) (by omega), q97_7]
        simp only [q97_0, q97_1, q97_2, q97_3, q97_4, q97_5, q97_9, q97_12, q97_15, q97_16, q97_19, q97_20, q97_21, q97_22, q97_24, q97_25, q97_26, q97_28, q97_29, q97_32, q97_35, q97_36, c1, z1, er, ne_eq, zCall_some, Option.toList, List.cons_append, List.nil_append, zb_0, zb_1, zem, z01, z11, nI_add, ↓reduceIte, not_true_eq_false, not_false_eq_true, n0T, n1F, n11T, true_or, or_true, false_or]
  simp only [q97_0, q97_1, q97_2, q97_3, q97_4, q97_5]
  exact key 1000 y x 0 _ _ .null hy (by omega) hx (by omega)
theorem i64_nI {q : Nat} (h : q < 2 ^ 31) : (nI q).toInt64 = lN q := nI_l h
theorem m_part {sc : Int32 × (Int32 → Int32)} {f : zF} {a : zA} {j : zJ} {d x y : Nat} {part : Int32} (hx : x < 2 ^ 31) (hy : y ≤ 1000) : cf sc (d + 2) 96 [.int (nI x), .int (nI y), .int part] f a j = some (some (.long (sFrac x y part)), f, a, j) := by
  rw [en96]
  unfold sFrac sNO
  rcases Nat.eq_zero_or_pos y with e | e
  · subst e
    have c1 : nI 0 ≤ 0 := by decide
    rw [if_pos (Or.inl rfl)]
    simp only [q96_0, q96_1, q96_4, q96_5, q96_6, q96_7, q96_10, q96_13, q96_16, q96_17, q96_18, q96_19, q96_22, q96_23, q96_24, q96_27, q96_30, q96_31, q96_32, q96_35, q96_36, q96_37, q96_38, q96_39, q96_42, q96_43, q96_44, q96_45, q96_46, c1, zCall_some, Option.toList, List.cons_append, List.nil_append, zb_0, zb_1, zem, z01, z11, nI_add, ↓reduceIte, not_true_eq_false, not_false_eq_true, n0T, n1F, n11T, true_or, or_true, false_or]
  · have c1 : ¬ nI y ≤ 0 := nI_nle e (by omega)
    by_cases hb : zBtw part 0 1
    · have hg : 0 < Nat.gcd x y := Nat.gcd_pos_of_pos_right x e
      have hgl : Nat.gcd x y ≤ y := Nat.gcd_le_right x e
      have c2 : 0 < nI (Nat.gcd x y) := nI_lt (a := 0) hg (by omega)
      have z0 : nI (Nat.gcd x y) ≠ 0 := nI_ne0 hg (by omega)
      have d1 : nI x / nI (Nat.gcd x y) = nI (x / Nat.gcd x y) := pk_div hx hg (by omega)
      have d2 : nI y / nI (Nat.gcd x y) = nI (y / Nat.gcd x y) := pk_div (by omega) hg (by omega)
      have l1 : x / Nat.gcd x y < 2 ^ 31 := Nat.lt_of_le_of_lt (Nat.div_le_self _ _) hx
      have l2 : y / Nat.gcd x y < 2 ^ 31 := Nat.lt_of_le_of_lt (Nat.div_le_self _ _) (by omega)
      rw [if_neg (fun q => by rcases q with q | q; omega; exact q hb)]
      by_cases h0 : part = nI 0
      · subst h0
        simp only [q96_0, q96_1, q96_4, q96_5, q96_6, q96_7, q96_10, q96_13, q96_16, q96_17, q96_18, q96_19, q96_22, q96_23, q96_24, q96_27, q96_30, q96_31, q96_32, q96_35, q96_36, q96_37, q96_38, q96_39, q96_42, q96_43, q96_44, q96_45, q96_46, c1, m_isWithin, eq_true hb, m_gcd hx hy, c2, z0, d1, i64_nI l1, ne_eq, zCall_some, Option.toList, List.cons_append, List.nil_append, zb_0, zb_1, zem, z01, z11, nI_add, ↓reduceIte, not_true_eq_false, not_false_eq_true, n0T, n1F, n11T, true_or, or_true, false_or]
      · have h0' : ¬ part = 0 := h0
        simp only [q96_0, q96_1, q96_4, q96_5, q96_6, q96_7, q96_10, q96_13, q96_16, q96_17, q96_18, q96_19, q96_22, q96_23, q96_24, q96_27, q96_30, q96_31, q96_32, q96_35, q96_36, q96_37, q96_38, q96_39, q96_42, q96_43, q96_44, q96_45, q96_46, c1, m_isWithin, eq_true hb, m_gcd hx hy, c2, z0, d2, i64_nI l2, h0, h0', ne_eq, zCall_some, Option.toList, List.cons_append, List.nil_append, zb_0, zb_1, zem, z01, z11, nI_add, ↓reduceIte, not_true_eq_false, not_false_eq_true, n0T, n1F, n11T, true_or, or_true, false_or]
    · rw [if_pos (Or.inr hb)]
      simp only [q96_0, q96_1, q96_4, q96_5, q96_6, q96_7, q96_10, q96_13, q96_16, q96_17, q96_18, q96_19, q96_22, q96_23, q96_24, q96_27, q96_30, q96_31, q96_32, q96_35, q96_36, q96_37, q96_38, q96_39, q96_42, q96_43, q96_44, q96_45, q96_46, c1, m_isWithin, eq_false hb, zCall_some, Option.toList, List.cons_append, List.nil_append, zb_0, zb_1, zem, z01, z11, nI_add, ↓reduceIte, not_true_eq_false, not_false_eq_true, n0T, n1F, n11T, true_or, or_true, false_or]
theorem od_le (σ : Nat → Nat) (g : Nat) : ∀ m, odN σ g m ≤ m
  | 0 => Nat.le_refl _
  | m + 1 => by
    have := od_le σ g m
    show (if _ then _ else _) ≤ _
    split
    · exact Nat.succ_le_succ this
    · exact Nat.le_succ_of_le this
theorem ngC_le (z : Nat) : ∀ m, ngC z m ≤ m
  | 0 => Nat.le_refl _
  | m + 1 => by
    have := ngC_le z m
    rw [ngC_s]
    split <;> omega
theorem ng_97 {σ : Nat → Nat} (hV : VR σ) {w : Nat} {tr : Bool} (hT : tr = true → TrOK σ w) {g : Nat} (hg : g < σ 0) : ngF σ w tr g ≤ 97 := by
  have h := hv_97 hV hT hg
  unfold ngF
  split
  · omega
  · exact Nat.le_trans (ngC_le _ _) h
theorem x_odds {sc : Int32 × (Int32 → Int32)} {f : zF} {a : zA} {j : zJ} {d : Nat} {σ : Nat → Nat} {v part : Int32} (hW : WR 1 σ f a) (hV : VS σ) : ∃ (f' : zF) (a' : zA), cf sc (d + 7) 79 [.ref 0, .int v, .int part] f a j = some (some (.long (sOdds σ v part)), f', a', j) ∧ FrT f f' a a' := by
  have hVR := hV.1.1
  have hn := hVR.1
  have hw : σ 3 ≤ 1010 := by have := hV.1.2.2.2.2; omega
  have hR : CR0 2 σ f a := hW.1
  rw [en79]
  unfold sOdds
  by_cases hv : zHas v (σ 0)
  · obtain ⟨g, hg, rfl⟩ := zHas_of (by omega) hv
    have ec : (nI g).toNatClampNeg = g := nI_clamp (by omega)
    rw [if_pos hv, ec]
    have key := zLoopP (n := 10) (g := fun s : (Nat × zF × zA) => rn sc (cf sc (d + 6)) 79 24 [.ref 0, .int (nI g), .int part, .int (nI (odN σ g s.1)), .int (nI (20 + s.1))] [] s.2.1 s.2.2 j) (P := fun i s => s.1 = i ∧ FrT f s.2.1 a s.2.2) (by
      intro i s hi hP
      obtain ⟨i', f1, a1⟩ := s
      obtain ⟨rfl, hF⟩ := hP
      dsimp only at hF hi
      have hW1 := hW.fr isW_1 hF
      obtain ⟨f2, a2, t1, t2, t3⟩ := m_turnsWere (sc := sc) (d := d) (j := j) (h := 20 + i') hW1 hV (by omega)
      refine ⟨(i' + 1, f2, a2), ⟨rfl, hF.tr t3⟩, ?_⟩
      have z0 : zup σ 1 (20 + i') 0 = σ 0 := zup_ne (by omega)
      have hVu : VR (zup σ 1 (20 + i')) := hVR.up (fun i q _ _ => zup_ne q) (by rw [zup_eq]; omega)
      have c1 : ¬ nI 29 < nI (20 + i') := nI_nlt (by omega) (by omega)
      have hng := m_nightHours (sc := sc) (d := d + 1) (j := j) (g := g) hVu hw (fun q => by cases q) t2 (by rw [z0]; exact hg)
      have h97 := ng_97 hVu (w := σ 3) (tr := false) (fun q => by cases q) (g := g) (by rw [z0]; exact hg)
      have en : odN σ g (i' + 1) = if 0 < ngF (zup σ 1 (20 + i')) (σ 3) false g then odN σ g i' + 1 else odN σ g i' := rfl
      dsimp only
      rw [q79_24, en]
      by_cases hz : 0 < ngF (zup σ 1 (20 + i')) (σ 3) false g
      · have c2 : ¬ nI (ngF (zup σ 1 (20 + i')) (σ 3) false g) ≤ 0 := nI_nle hz (by omega)
        simp only [q79_0, q79_1, q79_4, q79_7, q79_8, q79_11, q79_14, q79_17, q79_18, q79_19, q79_20, q79_22, q79_26, q79_28, q79_31, q79_32, q79_34, q79_37, q79_38, q79_41, q79_44, q79_47, q79_50, q79_53, q79_54, q79_56, q79_57, q79_60, c1, t1, hng, c2, hz, Nat.add_assoc, zCall_some, Option.toList, List.cons_append, List.nil_append, zb_0, zb_1, zem, z01, z11, nI_add, ↓reduceIte, not_true_eq_false, not_false_eq_true, n0T, n1F, n11T, true_or, or_true, false_or]
      · have c2 : nI (ngF (zup σ 1 (20 + i')) (σ 3) false g) ≤ 0 := by rw [show ngF (zup σ 1 (20 + i')) (σ 3) false g = 0 by omega]; decide
        simp only [q79_0, q79_1, q79_4, q79_7, q79_8, q79_11, q79_14, q79_17, q79_18, q79_19, q79_20, q79_22, q79_26, q79_28, q79_31, q79_32, q79_34, q79_37, q79_38, q79_41, q79_44, q79_47, q79_50, q79_53, q79_54, q79_56, q79_57, q79_60, c1, t1, hng, c2, hz, Nat.add_assoc, zCall_some, Option.toList, List.cons_append, List.nil_append, zb_0, zb_1, zem, z01, z11, nI_add, ↓reduceIte, not_true_eq_false, not_false_eq_true, n0T, n1F, n11T, true_or, or_true, false_or]) (0, f, a) ⟨rfl, FrT.rf⟩
    obtain ⟨⟨i, f1, a1⟩, ⟨hi, hF⟩, e⟩ := key
    dsimp only at hF e hi
    subst hi
    refine ⟨f1, a1, ?_, hF⟩
    have hol := od_le σ g 10
    have c1 : nI 29 < nI (20 + 10) := nI_lt (by omega) (by omega)
    simp only [q79_0, q79_1, q79_4, q79_7, q79_8, q79_11, q79_14, q79_17, q79_18, q79_19, q79_20, q79_22, q79_26, q79_28, q79_31, q79_32, q79_34, q79_37, q79_38, q79_41, q79_44, q79_47, q79_50, q79_53, q79_54, q79_56, q79_57, q79_60, isW_1, isC_2, Nat.reduceAdd, m_hasField isC_2 hR.1 hn, eq_true hv, zCall_some, Option.toList, List.cons_append, List.nil_append, zb_0, zb_1, zem, z01, z11, nI_add, ↓reduceIte, not_true_eq_false, not_false_eq_true, n0T, n1F, n11T, true_or, or_true, false_or]
    refine Eq.trans (show _ = _ from e) ?_
    simp only [q79_0, q79_1, q79_4, q79_7, q79_8, q79_11, q79_14, q79_17, q79_18, q79_19, q79_20, q79_22, q79_24, q79_26, q79_28, q79_31, q79_32, q79_34, q79_37, q79_38, q79_41, q79_44, q79_47, q79_50, q79_53, q79_54, q79_56, q79_57, q79_60, c1, m_part (x := odN σ g 10) (y := 10) (by omega) (by omega), zCall_some, Option.toList, List.cons_append, List.nil_append, zb_0, zb_1, zem, z01, z11, nI_add, ↓reduceIte, not_true_eq_false, not_false_eq_true, n0T, n1F, n11T, true_or, or_true, false_or]
  · rw [if_neg hv]
    refine ⟨f, a, ?_, FrT.rf⟩
    unfold sNO
    simp only [q79_0, q79_1, q79_4, q79_7, q79_8, q79_11, q79_14, q79_17, q79_18, q79_19, q79_20, q79_22, q79_24, q79_26, q79_28, q79_31, q79_32, q79_34, q79_37, q79_38, q79_41, q79_44, q79_47, q79_50, q79_53, q79_54, q79_56, q79_57, q79_60, isW_1, isC_2, Nat.reduceAdd, m_hasField isC_2 hR.1 hn, eq_false hv, zCall_some, Option.toList, List.cons_append, List.nil_append, zb_0, zb_1, zem, z01, z11, nI_add, ↓reduceIte, not_true_eq_false, not_false_eq_true, n0T, n1F, n11T, true_or, or_true, false_or]
theorem kp_le (σ : Nat → Nat) : ∀ r, kpF σ r ≤ 100
  | 0 => Nat.le_refl _
  | r + 1 => by
    have := kp_le σ r
    rw [kpF_s]
    omega
theorem wa_le {σ : Nat → Nat} (hV : VR σ) {w : Nat} {tr : Bool} (hT : tr = true → TrOK σ w) : ∀ n, n ≤ σ 0 → sumF (waF σ w tr) n ≤ 9700 * n
  | 0, _ => Nat.le_refl _
  | n + 1, h => by
    have ih := wa_le hV hT n (by omega)
    have h1 := hv_97 hV hT (show n < σ 0 by omega)
    have h2 := kp_le σ (σ (16 + n) + 1)
    have h3 : waF σ w tr n ≤ 97 * 100 := Nat.mul_le_mul h1 h2
    rw [sumF_s]
    omega
theorem x_mean {sc : Int32 × (Int32 → Int32)} {f : zF} {a : zA} {j : zJ} {d : Nat} {σ : Nat → Nat} {part : Int32} (hW : WR 1 σ f a) (hV : VS σ) : ∃ (f' : zF) (a' : zA), cf sc (d + 7) 80 [.ref 0, .int part] f a j = some (some (.long (sMean σ part)), f', a', j) ∧ FrT f f' a a' := by
  have hVR := hV.1.1
  have hn := hVR.1
  obtain ⟨f1, a1, t1, t2, t3⟩ := m_turnsNow (sc := sc) (d := d) (j := j) hW hV
  have hW1 := hW.fr isW_1 t3
  have hR1 : CR0 2 σ f1 a1 := hW1.1
  have e6 : f1 2 6 = nI (σ 0) := hR1.1
  have hb := wa_le hVR (w := σ 3) (tr := true) (fun _ => hV.2.1) (σ 0) (Nat.le_refl _)
  refine ⟨f1, a1, ?_, t3⟩
  rw [en80]
  unfold sMean
  simp only [q80_0, q80_1, q80_4, q80_5, q80_8, q80_11, q80_14, q80_15, q80_18, q80_21, q80_24, q80_25, q80_28, isW_1, isC_2, Nat.reduceAdd, t1, e6, m_allWater isC_2 hVR hR1 t2, m_part (x := sumF (waF σ (σ 3) true) (σ 0)) (y := σ 0) (by omega) (by omega), zCall_some, Option.toList, List.cons_append, List.nil_append, zb_0, zb_1, zem, z01, z11, nI_add, ↓reduceIte, not_true_eq_false, not_false_eq_true, n0T, n1F, n11T, true_or, or_true, false_or]
