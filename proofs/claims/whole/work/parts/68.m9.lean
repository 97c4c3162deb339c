/-! ===== the reference: fits, odds, mean, ends, looked, judge ===== -/
theorem foS_s (σ hv : Nat → Nat) (p q k m : Nat) : foS σ hv p q k (m + 1) = if hv (σ (p + k)) = σ (q + k) then foS σ hv p q (k + 1) m else nI k := rfl
theorem fb_in {sc : Int32 × (Int32 → Int32)} {F : zCF} {f : zF} {a : zA} {j : zJ} {σ hv : Nat → Nat} {n : Nat} {v1 : Value} (hR : MR σ a) (h5 : σ 5 ≤ 5) (hn : n ≤ 8) (hb : ∀ k, k < σ 5 → σ (76 + k) < n ∧ σ (81 + k) ≤ 96) (hA : ∀ g, g < n → a 93 (nI g) = nI (hv g)) (h97 : ∀ g, g < n → hv g ≤ 97) : ∀ m k, k + m = σ 5 → rn sc F 162 20 [.ref 85, v1, .int (nI k)] [] f a j = some (some (.int (zb (foS σ hv 76 81 k m = -5))), f, a, j) := by
  have ix5 : zIx 21 86 (nI 5) := ix86 (by omega)
  have e5 := hR 5 (by omega)
  intro m
  induction m with
  | zero =>
    intro k hk
    have c1 : nI (σ 5) ≤ nI k := nI_le (by omega) (by omega)
    rw [zb_t (show foS σ hv 76 81 k 0 = -5 from rfl)]
    simp only [q162_20, q162_21, q162_22, q162_25, q162_26, q162_27, q162_64, q162_65, ix5, e5, c1, zCall_some, Option.toList, List.cons_append, List.nil_append, zb_0, zb_1, zem, z01, z11, nI_add, ↓reduceIte, not_true_eq_false, not_false_eq_true, n0T, n1F, n11T, true_or, or_true, false_or]
  | succ m ih =>
    intro k hk
    obtain ⟨h1, h2⟩ := hb k (by omega)
    have c1 : ¬ nI (σ 5) ≤ nI k := nI_ge (by omega) (by omega)
    have i76 : zIx 21 86 (nI (76 + k)) := ix86 (by omega)
    have i81 : zIx 21 86 (nI (81 + k)) := ix86 (by omega)
    have i93 : zIx 21 93 (nI (σ (76 + k))) := ix93 (by omega)
    have e76 := hR (76 + k) (by omega)
    have e81 := hR (81 + k) (by omega)
    have r93 := hA _ h1
    have h9 := h97 _ h1
    have q1 : (nI (hv (σ (76 + k))) = nI (σ (81 + k))) = (hv (σ (76 + k)) = σ (81 + k)) := propext (nI_eq (by omega) (by omega))
    rw [foS_s, q162_20]
    by_cases h : hv (σ (76 + k)) = σ (81 + k)
    · rw [if_pos h, ← ih (k + 1) (by omega)]
      simp only [q162_0, q162_1, q162_4, q162_5, q162_6, q162_7, q162_8, q162_9, q162_12, q162_13, q162_14, q162_15, q162_18, q162_19, q162_21, q162_22, q162_25, q162_26, q162_27, q162_30, q162_31, q162_34, q162_35, q162_38, q162_40, q162_41, q162_42, q162_43, q162_44, q162_45, q162_48, q162_50, q162_51, q162_52, q162_53, q162_56, q162_57, q162_58, q162_61, q162_64, q162_65, ix5, e5, c1, i76, i81, i93, e76, e81, r93, q1, eq_true h, zCall_some, Option.toList, List.cons_append, List.nil_append, zb_0, zb_1, zem, z01, z11, nI_add, ↓reduceIte, not_true_eq_false, not_false_eq_true, n0T, n1F, n11T, true_or, or_true, false_or]
    · rw [if_neg h, zb_f (nI_n5 (i := k) (by omega))]
      simp only [q162_0, q162_1, q162_4, q162_5, q162_6, q162_7, q162_8, q162_9, q162_12, q162_13, q162_14, q162_15, q162_18, q162_19, q162_21, q162_22, q162_25, q162_26, q162_27, q162_30, q162_31, q162_34, q162_35, q162_38, q162_40, q162_41, q162_42, q162_43, q162_44, q162_45, q162_48, q162_50, q162_51, q162_52, q162_53, q162_56, q162_57, q162_58, q162_61, q162_64, q162_65, ix5, e5, c1, i76, i81, i93, e76, e81, r93, q1, eq_false h, zCall_some, Option.toList, List.cons_append, List.nil_append, zb_0, zb_1, zem, z01, z11, nI_add, ↓reduceIte, not_true_eq_false, not_false_eq_true, n0T, n1F, n11T, true_or, or_true, false_or]
theorem m_fitsBy {sc : Int32 × (Int32 → Int32)} {f : zF} {a : zA} {j : zJ} {d h x : Nat} {σ : Nat → Nat} (hR : MR (zup σ 1 x) a) (hV : VS σ) (hh : h ≤ 97) : ∃ (f' : zF) (a' : zA), cf sc (d + 6) 162 [.ref 85, .int (nI h)] f a j = some (some (.int (zb (fitB σ h = true))), f', a', j) ∧ MR (zup σ 1 h) a' ∧ MFW f f' a a' := by
  have hVR := hV.1.1
  have hn := hVR.1
  have hw : σ 3 ≤ 1010 := by have := hV.1.2.2.2.2; omega
  obtain ⟨b1, b2⟩ := hV.2.2.1
  have hVu := hV.hr hh
  have ix1 : zIx 21 86 (nI 1) := ix86 (by omega)
  have ix3 : zIx 21 86 (nI 3) := ix86 (by omega)
  have hR1 : MR (zup σ 1 h) (zuA a 86 (nI 1) (nI h)) := hR.re (by omega)
  have e3 := hR1 3 (by omega)
  rw [zup_ne (by omega)] at e3
  obtain ⟨f1, a1, t1, t2, t3⟩ := m_tellsF (sc := sc) (d := d) (f := f) (j := j) (w := σ 3) hR1 hVu hw (by rw [zup_ne (by omega)]; exact hV.1.2.2.2.1)
  have hR2 := t3.r hR1
  have z0 : zup σ 1 h 0 = σ 0 := zup_ne (by omega)
  have z5 : zup σ 1 h 5 = σ 5 := zup_ne (by omega)
  have hf : ∀ m k, foS (zup σ 1 h) (hvOf (zup σ 1 h) (σ 3) false) 76 81 k m = foS σ (hvOf (zup σ 1 h) (σ 3) false) 76 81 k m := by
    intro m
    induction m with
    | zero => intro k; rfl
    | succ m ih =>
      intro k
      rw [foS_s, foS_s, ih, zup_ne (show 76 + k ≠ 1 by omega), zup_ne (show 81 + k ≠ 1 by omega)]
  have key := fb_in (sc := sc) (F := cf sc (d + 5)) (f := f1) (a := a1) (j := j) (σ := zup σ 1 h) (hv := hvOf (zup σ 1 h) (σ 3) false) (n := σ 0) (v1 := .int (nI h)) hR2 (by rw [z5]; exact b1) hn (fun k hk => by
    rw [zup_ne (show 76 + k ≠ 1 by omega), zup_ne (show 81 + k ≠ 1 by omega)]
    exact b2 k (by rw [← z5]; exact hk)) (fun g hg => t2.2.1 g (by rw [z0]; exact hg)) (fun g hg => hv_97 hVu (fun q => by cases q) (by rw [z0]; exact hg)) (zup σ 1 h 5) 0 (by omega)
  rw [hf, z5] at key
  refine ⟨f1, a1, ?_, hR2, MFW.s86.tr t3.w⟩
  rw [en162]
  have ef : zb (fitB σ h = true) = zb (foS σ (hvOf (zup σ 1 h) (σ 3) false) 76 81 0 (σ 5) = -5) := zb_iff (by unfold fitB; rw [decide_eq_true_eq])
  rw [ef, ← key]
  simp only [q162_0, q162_1, q162_4, q162_5, q162_6, q162_7, q162_8, q162_9, q162_12, q162_13, q162_14, q162_15, q162_18, q162_19, q162_21, q162_22, q162_25, q162_26, q162_27, q162_30, q162_31, q162_34, q162_35, q162_38, q162_40, q162_41, q162_42, q162_43, q162_44, q162_45, q162_48, q162_50, q162_51, q162_52, q162_53, q162_56, q162_57, q162_58, q162_61, q162_64, q162_65, ix1, ix3, e3, t1, zCall_some, Option.toList, List.cons_append, List.nil_append, zb_0, zb_1, zem, z01, z11, nI_add, ↓reduceIte, not_true_eq_false, not_false_eq_true, n0T, n1F, n11T, true_or, or_true, false_or]
theorem ftN_s (σ : Nat → Nat) (m : Nat) : ftN σ (m + 1) = if fitB σ (8 + m) = true then ftN σ m + 1 else ftN σ m := rfl
theorem ftL_s (σ : Nat → Nat) (m : Nat) : ftL σ (m + 1) = if fitB σ (8 + m) = true then (if ftL σ m = -5 then nI (8 + m) else ftL σ m) else ftL σ m := rfl
theorem ft_le (σ : Nat → Nat) : ∀ m, ftN σ m ≤ m
  | 0 => Nat.le_refl _
  | m + 1 => by
    have := ft_le σ m
    rw [ftN_s]
    split <;> omega
theorem ft_no (σ : Nat → Nat) : ∀ m, m ≤ 1000 → ((ftN σ m = 0) ↔ (ftL σ m = -5))
  | 0, _ => ⟨fun _ => rfl, fun _ => rfl⟩
  | m + 1, hm => by
    have ih := ft_no σ m (by omega)
    rw [ftN_s, ftL_s]
    by_cases h : fitB σ (8 + m) = true
    · rw [if_pos h, if_pos h]
      by_cases h2 : ftL σ m = -5
      · rw [if_pos h2]
        exact ⟨fun q => by omega, fun q => absurd q (nI_n5 (by omega))⟩
      · rw [if_neg h2]
        exact ⟨fun q => by omega, fun q => absurd q h2⟩
    · rw [if_neg h, if_neg h]
      exact ih
theorem y_fits {sc : Int32 × (Int32 → Int32)} {f : zF} {a : zA} {j : zJ} {d : Nat} {σ : Nat → Nat} {what : Int32} (hR : MR σ a) (hV : VS σ) : ∃ (f' : zF) (a' : zA), cf sc (d + 7) 163 [.ref 85, .int what] f a j = some (some (.int (sFits σ what)), f', a', j) ∧ MR σ a' ∧ MFW f f' a a' := by
  have ix1 : zIx 21 86 (nI 1) := ix86 (by omega)
  have e1 := hR 1 (by omega)
  rw [en163]
  unfold sFits
  by_cases hb : zBtw what 0 1
  · rw [if_pos hb]
    have key := zLoopP (n := 89) (g := fun s : (Nat × zF × zA) => rn sc (cf sc (d + 6)) 163 29 [.ref 85, .int what, .int (nI (σ 1)), .int (nI (ftN σ s.1)), .int (ftL σ s.1), .int (nI (8 + s.1))] [] s.2.1 s.2.2 j) (P := fun i s => s.1 = i ∧ MFW f s.2.1 a s.2.2 ∧ ∃ x, MR (zup σ 1 x) s.2.2) (by
      intro i s hi hP
      obtain ⟨i', f1, a1⟩ := s
      obtain ⟨rfl, hM, x, hx⟩ := hP
      dsimp only at hM hx hi
      obtain ⟨f2, a2, t1, t2, t3⟩ := m_fitsBy (sc := sc) (d := d) (f := f1) (j := j) (h := 8 + i') hx hV (by omega)
      refine ⟨(i' + 1, f2, a2), ⟨rfl, hM.tr t3, _, t2⟩, ?_⟩
      have c1 : ¬ nI 96 < nI (8 + i') := nI_nlt (by omega) (by omega)
      have hle := ft_le σ i'
      have hno := ft_no σ i' (by omega)
      dsimp only
      rw [q163_29, ftN_s, ftL_s]
      by_cases hf : fitB σ (8 + i') = true
      · rw [if_pos hf, if_pos hf]
        by_cases hz : ftN σ i' = 0
        · have z' : nI (ftN σ i') = 0 := by rw [hz]; rfl
          rw [if_pos (hno.mp hz)]
          simp only [q163_0, q163_1, q163_2, q163_3, q163_4, q163_7, q163_10, q163_11, q163_12, q163_13, q163_16, q163_17, q163_18, q163_19, q163_20, q163_21, q163_23, q163_25, q163_27, q163_31, q163_33, q163_36, q163_37, q163_39, q163_42, q163_45, q163_48, q163_49, q163_52, q163_54, q163_56, q163_59, q163_62, q163_65, q163_66, q163_69, q163_70, q163_71, q163_72, q163_73, q163_76, q163_77, q163_80, q163_82, c1, t1, eq_true hf, eq_true z', Nat.add_assoc, zCall_some, Option.toList, List.cons_append, List.nil_append, zb_0, zb_1, zem, z01, z11, nI_add, ↓reduceIte, not_true_eq_false, not_false_eq_true, n0T, n1F, n11T, true_or, or_true, false_or]
        · have z' : ¬ nI (ftN σ i') = 0 := nI_ne0 (by omega) (by omega)
          rw [if_neg (fun q => hz (hno.mpr q))]
          simp only [q163_0, q163_1, q163_2, q163_3, q163_4, q163_7, q163_10, q163_11, q163_12, q163_13, q163_16, q163_17, q163_18, q163_19, q163_20, q163_21, q163_23, q163_25, q163_27, q163_31, q163_33, q163_36, q163_37, q163_39, q163_42, q163_45, q163_48, q163_49, q163_52, q163_54, q163_56, q163_59, q163_62, q163_65, q163_66, q163_69, q163_70, q163_71, q163_72, q163_73, q163_76, q163_77, q163_80, q163_82, c1, t1, eq_true hf, eq_false z', Nat.add_assoc, zCall_some, Option.toList, List.cons_append, List.nil_append, zb_0, zb_1, zem, z01, z11, nI_add, ↓reduceIte, not_true_eq_false, not_false_eq_true, n0T, n1F, n11T, true_or, or_true, false_or]
      · rw [if_neg hf, if_neg hf]
        simp only [q163_0, q163_1, q163_2, q163_3, q163_4, q163_7, q163_10, q163_11, q163_12, q163_13, q163_16, q163_17, q163_18, q163_19, q163_20, q163_21, q163_23, q163_25, q163_27, q163_31, q163_33, q163_36, q163_37, q163_39, q163_42, q163_45, q163_48, q163_49, q163_52, q163_54, q163_56, q163_59, q163_62, q163_65, q163_66, q163_69, q163_70, q163_71, q163_72, q163_73, q163_76, q163_77, q163_80, q163_82, c1, t1, eq_false hf, Nat.add_assoc, zCall_some, Option.toList, List.cons_append, List.nil_append, zb_0, zb_1, zem, z01, z11, nI_add, ↓reduceIte, not_true_eq_false, not_false_eq_true, n0T, n1F, n11T, true_or, or_true, false_or]) (0, f, a) ⟨rfl, MFW.rf, σ 1, hR.ext (fun i _ => by rw [zup_self])⟩
    obtain ⟨⟨i, f1, a1⟩, ⟨hi, hM, x, hx⟩, e⟩ := key
    dsimp only at hM hx hi e
    rw [hi] at e
    refine ⟨f1, zuA a1 86 (nI 1) (nI (σ 1)), ?_, hx.back (by omega), hM.tr MFW.s86⟩
    have c1 : nI 96 < nI (8 + 89) := nI_lt (by omega) (by omega)
    simp only [q163_0, q163_1, q163_2, q163_3, q163_4, q163_7, q163_12, q163_13, q163_16, q163_17, q163_18, q163_19, q163_20, q163_21, q163_23, q163_25, q163_27, in01, eq_true hb, ix1, e1, zCall_some, Option.toList, List.cons_append, List.nil_append, zb_0, zb_1, zem, z01, z11, nI_add, ↓reduceIte, not_true_eq_false, not_false_eq_true, n0T, n1F, n11T, true_or, or_true, false_or]
    refine Eq.trans (show _ = _ from e) ?_
    by_cases h0 : what = nI 0
    · have h0' : what = 0 := h0
      rw [if_pos h0]
      simp only [q163_29, q163_31, q163_33, q163_65, q163_66, q163_69, q163_70, q163_71, q163_72, q163_73, q163_76, q163_77, q163_80, q163_82, c1, ix1, eq_true h0', zCall_some, Option.toList, List.cons_append, List.nil_append, zb_0, zb_1, zem, z01, z11, nI_add, ↓reduceIte, not_true_eq_false, not_false_eq_true, n0T, n1F, n11T, true_or, or_true, false_or]
    · have h0' : ¬ what = 0 := h0
      rw [if_neg h0]
      simp only [q163_29, q163_31, q163_33, q163_65, q163_66, q163_69, q163_70, q163_71, q163_72, q163_73, q163_76, q163_77, q163_80, q163_82, c1, ix1, eq_false h0', zCall_some, Option.toList, List.cons_append, List.nil_append, zb_0, zb_1, zem, z01, z11, nI_add, ↓reduceIte, not_true_eq_false, not_false_eq_true, n0T, n1F, n11T, true_or, or_true, false_or]
  · rw [if_neg hb]
    refine ⟨f, a, ?_, hR, MFW.rf⟩
    simp only [q163_0, q163_1, q163_2, q163_3, q163_4, q163_7, q163_10, q163_11, q163_12, q163_13, q163_16, q163_17, q163_18, q163_19, q163_20, q163_21, q163_23, q163_25, q163_27, q163_31, q163_33, q163_36, q163_37, q163_39, q163_42, q163_45, q163_48, q163_49, q163_52, q163_54, q163_56, q163_59, q163_62, q163_65, q163_66, q163_69, q163_70, q163_71, q163_72, q163_73, q163_76, q163_77, q163_80, q163_82, in01, eq_false hb, zCall_some, Option.toList, List.cons_append, List.nil_append, zb_0, zb_1, zem, z01, z11, nI_add, ↓reduceIte, not_true_eq_false, not_false_eq_true, n0T, n1F, n11T, true_or, or_true, false_or]
theorem m_lowest {sc : Int32 × (Int32 → Int32)} {f : zF} {a : zA} {j : zJ} {d x y : Nat} {part : Int32} (hx : x < 2 ^ 31) (h0 : 0 < y) (hy : y ≤ 1000) (hb : zBtw part 0 1) : cf sc (d + 1) 164 [.long (lN x), .long (lN y), .int part] f a j = some (some (.long (sFrac x y part)), f, a, j) := by
  have key : ∀ n (y1 x1 : Nat) (v9 : Value), y1 < n → x1 < 2 ^ 31 → y1 ≤ 1000 → ∃ v9' : Value, rn sc (cf sc d) 164 6 [.long (lN x), .null, .long (lN y), .null, .int part, .long (lN x1), .null, .long (lN y1), .null, v9, .null] [] f a j = rn sc (cf sc d) 164 31 [.long (lN x), .null, .long (lN y), .null, .int part, .long (lN (Nat.gcd x1 y1)), .null, .long (lN 0), .null, v9', .null] [] f a j := by
    intro n
    induction n with
    | zero => intro y1 x1 v9 h1; omega
    | succ n ih =>
      intro y1 x1 v9 h1 h2 h3
      have q0 : (lN y1 = 0) = (y1 = 0) := propext (pk_lEQ (b := 0) (by omega) (by omega))
      rcases Nat.eq_zero_or_pos y1 with e | e
      · refine ⟨v9, ?_⟩
        subst e
        rw [Nat.gcd_zero_right]
        simp only [q164_6, q164_8, q164_9, q164_10, lg_cmp_eq, q0, zCall_some, Option.toList, List.cons_append, List.nil_append, zb_0, zb_1, zem, z01, z11, nI_add, ↓reduceIte, not_true_eq_false, not_false_eq_true, n0T, n1F, n11T, true_or, or_true, false_or]
      · have hm := Nat.mod_lt x1 e
        have z0 : ¬ y1 = 0 := by omega
        have zl : lN y1 ≠ 0 := fun q => z0 (by rw [q0] at q; exact q)
        have er : lN x1 - lN x1 / lN y1 * lN y1 = lN (x1 % y1) := pk_lRem (by omega) e (by omega)
        have eg : Nat.gcd x1 y1 = Nat.gcd y1 (x1 % y1) := by rw [Nat.gcd_comm x1 y1, Nat.gcd_rec, Nat.gcd_comm]
        obtain ⟨v9', h⟩ := ih (x1 % y1) y1 (.long (lN (x1 % y1))) (by omega) (by omega) (by omega)
        refine ⟨v9', ?_⟩
        rw [eg, ← h, q164_6]
        simp only [q164_0, q164_1, q164_3, q164_4, q164_8, q164_9, q164_10, q164_13, q164_15, q164_17, q164_18, q164_20, q164_22, q164_24, q164_26, q164_28, q164_33, q164_36, q164_37, q164_39, q164_40, q164_43, q164_44, q164_46, q164_47, lg_cmp_eq, q0, eq_false z0, er, zl, ne_eq, not_false_eq_true, zCall_some, Option.toList, List.cons_append, List.nil_append, zb_0, zb_1, zem, z01, z11, nI_add, ↓reduceIte, not_true_eq_false, not_false_eq_true, n0T, n1F, n11T, true_or, or_true, false_or]
  obtain ⟨v9, h⟩ := key (y + 1) y x .null (by omega) hx hy
  have hg : 0 < Nat.gcd x y := Nat.gcd_pos_of_pos_right x h0
  have hgl : Nat.gcd x y ≤ y := Nat.gcd_le_right x h0
  have z0 : lN (Nat.gcd x y) ≠ 0 := fun q => by
    have := (pk_lEQ (b := 0) (by omega) (by omega)).mp q
    omega
  have d1 : lN x / lN (Nat.gcd x y) = lN (x / Nat.gcd x y) := pk_lDiv (by omega) hg (by omega)
  have d2 : lN y / lN (Nat.gcd x y) = lN (y / Nat.gcd x y) := pk_lDiv (by omega) hg (by omega)
  rw [en164]
  simp only [q164_0, q164_1, q164_3, q164_4]
  refine Eq.trans (show _ = _ from h) ?_
  unfold sFrac
  have hc : ¬ (y = 0 ∨ ¬ zBtw part 0 1) := by
    rintro (q | q)
    · omega
    · exact q hb
  rw [if_neg hc]
  by_cases h9 : part = nI 0
  · have h9' : part = 0 := h9
    rw [if_pos h9]
    simp only [q164_0, q164_1, q164_3, q164_4, q164_8, q164_9, q164_10, q164_13, q164_15, q164_17, q164_18, q164_20, q164_22, q164_24, q164_26, q164_28, q164_31, q164_33, q164_36, q164_37, q164_39, q164_40, q164_43, q164_44, q164_46, q164_47, eq_true h9', z0, d1, ne_eq, not_false_eq_true, zCall_some, Option.toList, List.cons_append, List.nil_append, zb_0, zb_1, zem, z01, z11, nI_add, ↓reduceIte, not_true_eq_false, not_false_eq_true, n0T, n1F, n11T, true_or, or_true, false_or]
  · have h9' : ¬ part = 0 := h9
    rw [if_neg h9]
    simp only [q164_0, q164_1, q164_3, q164_4, q164_8, q164_9, q164_10, q164_13, q164_15, q164_17, q164_18, q164_20, q164_22, q164_24, q164_26, q164_28, q164_31, q164_33, q164_36, q164_37, q164_39, q164_40, q164_43, q164_44, q164_46, q164_47, eq_false h9', z0, d2, ne_eq, not_false_eq_true, zCall_some, Option.toList, List.cons_append, List.nil_append, zb_0, zb_1, zem, z01, z11, nI_add, ↓reduceIte, not_true_eq_false, not_false_eq_true, n0T, n1F, n11T, true_or, or_true, false_or]
theorem odN_s (σ : Nat → Nat) (g m : Nat) : odN σ g (m + 1) = if 0 < ngF (zup σ 1 (20 + m)) (σ 3) false g then odN σ g m + 1 else odN σ g m := rfl
theorem y_odds {sc : Int32 × (Int32 → Int32)} {f : zF} {a : zA} {j : zJ} {d : Nat} {σ : Nat → Nat} {v part : Int32} (hR : MR σ a) (hV : VS σ) : ∃ (f' : zF) (a' : zA), cf sc (d + 6) 165 [.ref 85, .int v, .int part] f a j = some (some (.long (sOdds σ v part)), f', a', j) ∧ MR σ a' ∧ MFW f f' a a' := by
  have hVR := hV.1.1
  have hn := hVR.1
  have hw : σ 3 ≤ 1010 := by have := hV.1.2.2.2.2; omega
  have hF := m_isField (sc := sc) (d := d + 3) (f := f) (j := j) (v := v) hR hn
  have ix1 : zIx 21 86 (nI 1) := ix86 (by omega)
  have ix3 : zIx 21 86 (nI 3) := ix86 (by omega)
  have e1 := hR 1 (by omega)
  rw [en165]
  unfold sOdds
  by_cases hv : zHas v (σ 0)
  · rw [if_pos hv]
    by_cases hb : zBtw part 0 1
    · obtain ⟨g, hg, rfl⟩ := zHas_of (by omega) hv
      rw [nI_clamp (n := g) (by omega)]
      have i95 : zIx 21 95 (nI g) := ix95 (by omega)
      have key := zLoopP (n := 10) (g := fun s : (Nat × zF × zA) => rn sc (cf sc (d + 5)) 165 36 [.ref 85, .int (nI g), .int part, .int (nI (σ 1)), .int (nI (odN σ g s.1)), .int (nI (20 + s.1))] [] s.2.1 s.2.2 j) (P := fun i s => s.1 = i ∧ MFW f s.2.1 a s.2.2 ∧ ∃ x, MR (zup σ 1 x) s.2.2) (by
        intro i s hi hP
        obtain ⟨i', f1, a1⟩ := s
        obtain ⟨rfl, hM, x, hx⟩ := hP
        dsimp only at hM hx hi
        have hVu := hV.hr (show 20 + i' ≤ 97 by omega)
        have hR1 : MR (zup σ 1 (20 + i')) (zuA a1 86 (nI 1) (nI (20 + i'))) := hx.re (by omega)
        have e3 := hR1 3 (by omega)
        rw [zup_ne (by omega)] at e3
        obtain ⟨f2, a2, t1, t2, t3⟩ := m_tellsF (sc := sc) (d := d) (f := f1) (j := j) (w := σ 3) hR1 hVu hw (by rw [zup_ne (by omega)]; exact hV.1.2.2.2.1)
        have z0 : zup σ 1 (20 + i') 0 = σ 0 := zup_ne (by omega)
        have r95 := (t2.2.2 g (by rw [z0]; exact hg)).2
        have h97 := ng_97 hVu (w := σ 3) (tr := false) (fun q => by cases q) (g := g) (by rw [z0]; exact hg)
        refine ⟨(i' + 1, f2, a2), ⟨rfl, hM.tr (MFW.s86.tr t3.w), _, t3.r hR1⟩, ?_⟩
        have c1 : ¬ nI 30 ≤ nI (20 + i') := nI_ge (by omega) (by omega)
        dsimp only
        rw [q165_36, odN_s]
        by_cases hp : 0 < ngF (zup σ 1 (20 + i')) (σ 3) false g
        · have c2 : ¬ nI (ngF (zup σ 1 (20 + i')) (σ 3) false g) ≤ 0 := nI_nle hp (by omega)
          rw [if_pos hp]
          simp only [q165_0, q165_1, q165_2, q165_5, q165_8, q165_9, q165_10, q165_11, q165_12, q165_15, q165_18, q165_21, q165_22, q165_23, q165_26, q165_27, q165_28, q165_29, q165_30, q165_32, q165_34, q165_38, q165_40, q165_43, q165_44, q165_47, q165_48, q165_50, q165_51, q165_52, q165_53, q165_56, q165_57, q165_58, q165_59, q165_62, q165_63, q165_66, q165_67, q165_68, q165_71, q165_74, q165_77, q165_80, q165_81, q165_84, q165_85, q165_86, q165_87, q165_89, q165_90, q165_93, q165_94, q165_97, c1, ix1, ix3, e3, t1, i95, r95, c2, Nat.add_assoc, zCall_some, Option.toList, List.cons_append, List.nil_append, zb_0, zb_1, zem, z01, z11, nI_add, ↓reduceIte, not_true_eq_false, not_false_eq_true, n0T, n1F, n11T, true_or, or_true, false_or]
        · have c2 : nI (ngF (zup σ 1 (20 + i')) (σ 3) false g) ≤ 0 := by rw [show ngF (zup σ 1 (20 + i')) (σ 3) false g = 0 by omega]; decide
          rw [if_neg hp]
          simp only [q165_0, q165_1, q165_2, q165_5, q165_8, q165_9, q165_10, q165_11, q165_12, q165_15, q165_18, q165_21, q165_22, q165_23, q165_26, q165_27, q165_28, q165_29, q165_30, q165_32, q165_34, q165_38, q165_40, q165_43, q165_44, q165_47, q165_48, q165_50, q165_51, q165_52, q165_53, q165_56, q165_57, q165_58, q165_59, q165_62, q165_63, q165_66, q165_67, q165_68, q165_71, q165_74, q165_77, q165_80, q165_81, q165_84, q165_85, q165_86, q165_87, q165_89, q165_90, q165_93, q165_94, q165_97, c1, ix1, ix3, e3, t1, i95, r95, c2, Nat.add_assoc, zCall_some, Option.toList, List.cons_append, List.nil_append, zb_0, zb_1, zem, z01, z11, nI_add, ↓reduceIte, not_true_eq_false, not_false_eq_true, n0T, n1F, n11T, true_or, or_true, false_or]) (0, f, a) ⟨rfl, MFW.rf, σ 1, hR.ext (fun i _ => by rw [zup_self])⟩
      obtain ⟨⟨i, f1, a1⟩, ⟨hi, hM, x, hx⟩, e⟩ := key
      dsimp only at hM hx hi e
      rw [hi] at e
      refine ⟨f1, zuA a1 86 (nI 1) (nI (σ 1)), ?_, hx.back (by omega), hM.tr MFW.s86⟩
      have c1 : nI 30 ≤ nI (20 + 10) := nI_le (by omega) (by omega)
      have hod := od_le σ g 10
      have hL : cf sc (d + 5) 164 [.long (lN (odN σ g 10)), .long 10, .int part] f1 (zuA a1 86 (nI 1) (nI (σ 1))) j = some (some (.long (sFrac (odN σ g 10) 10 part)), f1, zuA a1 86 (nI 1) (nI (σ 1)), j) := m_lowest (d := d + 4) (y := 10) (by omega) (by omega) (by omega) hb
      have el : (nI (odN σ g 10)).toInt64 = lN (odN σ g 10) := i64_nI (by omega)
      simp only [q165_0, q165_1, q165_2, q165_5, q165_8, q165_9, q165_10, q165_11, q165_12, q165_15, q165_22, q165_23, q165_26, q165_27, q165_28, q165_29, q165_30, q165_32, q165_34, hF, eq_true hv, in01, eq_true hb, ix1, e1, zCall_some, Option.toList, List.cons_append, List.nil_append, zb_0, zb_1, zem, z01, z11, nI_add, ↓reduceIte, not_true_eq_false, not_false_eq_true, n0T, n1F, n11T, true_or, or_true, false_or]
      refine Eq.trans (show _ = _ from e) ?_
      simp only [q165_36, q165_38, q165_40, q165_80, q165_81, q165_84, q165_85, q165_86, q165_87, q165_89, q165_90, q165_93, q165_94, q165_97, c1, ix1, el, hL, zCall_some, Option.toList, List.cons_append, List.nil_append, zb_0, zb_1, zem, z01, z11, nI_add, ↓reduceIte, not_true_eq_false, not_false_eq_true, n0T, n1F, n11T, true_or, or_true, false_or]
    · refine ⟨f, a, ?_, hR, MFW.rf⟩
      unfold sFrac sNO
      rw [if_pos (Or.inr hb)]
      simp only [q165_0, q165_1, q165_2, q165_5, q165_8, q165_9, q165_10, q165_11, q165_12, q165_15, q165_18, q165_21, q165_22, q165_23, q165_26, q165_27, q165_28, q165_29, q165_30, q165_32, q165_34, q165_38, q165_40, q165_43, q165_44, q165_47, q165_48, q165_50, q165_51, q165_52, q165_53, q165_56, q165_57, q165_58, q165_59, q165_62, q165_63, q165_66, q165_67, q165_68, q165_71, q165_74, q165_77, q165_80, q165_81, q165_84, q165_85, q165_86, q165_87, q165_89, q165_90, q165_93, q165_94, q165_97, hF, eq_true hv, in01, eq_false hb, zCall_some, Option.toList, List.cons_append, List.nil_append, zb_0, zb_1, zem, z01, z11, nI_add, ↓reduceIte, not_true_eq_false, not_false_eq_true, n0T, n1F, n11T, true_or, or_true, false_or]
  · rw [if_neg hv]
    refine ⟨f, a, ?_, hR, MFW.rf⟩
    unfold sNO
    simp only [q165_0, q165_1, q165_2, q165_5, q165_8, q165_9, q165_10, q165_11, q165_12, q165_15, q165_18, q165_21, q165_22, q165_23, q165_26, q165_27, q165_28, q165_29, q165_30, q165_32, q165_34, q165_38, q165_40, q165_43, q165_44, q165_47, q165_48, q165_50, q165_51, q165_52, q165_53, q165_56, q165_57, q165_58, q165_59, q165_62, q165_63, q165_66, q165_67, q165_68, q165_71, q165_74, q165_77, q165_80, q165_81, q165_84, q165_85, q165_86, q165_87, q165_89, q165_90, q165_93, q165_94, q165_97, hF, eq_false hv, zCall_some, Option.toList, List.cons_append, List.nil_append, zb_0, zb_1, zem, z01, z11, nI_add, ↓reduceIte, not_true_eq_false, not_false_eq_true, n0T, n1F, n11T, true_or, or_true, false_or]
theorem sumF_b {x : Nat → Nat} {B : Nat} : ∀ n, (∀ g, g < n → x g ≤ B) → sumF x n ≤ n * B
  | 0, _ => by rw [show sumF x 0 = 0 from rfl]; omega
  | n + 1, h => by
    have ih := sumF_b (x := x) (B := B) n (fun g hg => h g (by omega))
    have := h n (by omega)
    rw [sumF_s, Nat.add_mul, Nat.one_mul]
    omega
theorem wa_leR {σ : Nat → Nat} (hV : VR σ) {w : Nat} {tr : Bool} (hT : tr = true → TrOK σ w) {g : Nat} (hg : g < σ 0) : waF σ w tr g ≤ 9700 := by
  have h1 := hv_97 hV hT hg
  have h2 := kpF_le σ (σ (16 + g) + 1)
  have := Nat.mul_le_mul h1 h2
  unfold waF
  omega
theorem y_mean {sc : Int32 × (Int32 → Int32)} {f : zF} {a : zA} {j : zJ} {d : Nat} {σ : Nat → Nat} {part : Int32} (hR : MR σ a) (hV : VS σ) : ∃ (f' : zF) (a' : zA), cf sc (d + 7) 166 [.ref 85, .int part] f a j = some (some (.long (sMean σ part)), f', a', j) ∧ MF f f' a a' := by
  have hVR := hV.1.1
  have hn := hVR.1
  have hTr : true = true → TrOK σ (σ 3) := fun _ => hV.2.1
  have ix0 : zIx 21 86 (nI 0) := ix86 (by omega)
  have e0 := hR 0 (by omega)
  rw [en166]
  unfold sMean
  by_cases hz : σ 0 = 0
  · have z' : nI (σ 0) = 0 := by rw [hz]; rfl
    refine ⟨f, a, ?_, MF.rf⟩
    unfold sFrac sNO
    rw [if_pos (Or.inl hz)]
    simp only [q166_0, q166_1, q166_4, q166_5, q166_6, q166_9, q166_10, q166_11, q166_12, q166_13, q166_16, q166_19, q166_22, q166_23, q166_24, q166_27, q166_28, q166_31, q166_32, q166_33, q166_36, q166_37, q166_38, q166_39, q166_40, q166_43, ix0, e0, eq_true z', zCall_some, Option.toList, List.cons_append, List.nil_append, zb_0, zb_1, zem, z01, z11, nI_add, ↓reduceIte, not_true_eq_false, not_false_eq_true, n0T, n1F, n11T, true_or, or_true, false_or]
  · have z' : ¬ nI (σ 0) = 0 := nI_ne0 (by omega) (by omega)
    by_cases hb : zBtw part 0 1
    · obtain ⟨f1, a1, t1, t2, t3⟩ := m_now (sc := sc) (d := d) (f := f) (j := j) hR hV
      have hR1 := t3.r hR
      have e01 := hR1 0 (by omega)
      have hW := m_waterAll (sc := sc) (d := d + 4) (f := f1) (j := j) hR1 hVR t2.2.1
      have hs := sumF_b (x := waF σ (σ 3) true) (B := 9700) (σ 0) (fun g hg => wa_leR hVR hTr hg)
      have hm : σ 0 * 9700 ≤ 8 * 9700 := Nat.mul_le_mul_right 9700 hn
      have el : (nI (sumF (waF σ (σ 3) true) (σ 0))).toInt64 = lN (sumF (waF σ (σ 3) true) (σ 0)) := i64_nI (by omega)
      have e2 : (nI (σ 0)).toInt64 = lN (σ 0) := i64_nI (by omega)
      have hL := m_lowest (sc := sc) (d := d + 5) (f := f1) (a := a1) (j := j) (x := sumF (waF σ (σ 3) true) (σ 0)) (y := σ 0) (part := part) (by omega) (by omega) (by omega) hb
      refine ⟨f1, a1, ?_, t3⟩
      simp only [q166_0, q166_1, q166_4, q166_5, q166_6, q166_9, q166_10, q166_11, q166_12, q166_13, q166_16, q166_19, q166_22, q166_23, q166_24, q166_27, q166_28, q166_31, q166_32, q166_33, q166_36, q166_37, q166_38, q166_39, q166_40, q166_43, ix0, e0, eq_false z', in01, eq_true hb, t1, hW, e01, el, e2, hL, zCall_some, Option.toList, List.cons_append, List.nil_append, zb_0, zb_1, zem, z01, z11, nI_add, ↓reduceIte, not_true_eq_false, not_false_eq_true, n0T, n1F, n11T, true_or, or_true, false_or]
    · refine ⟨f, a, ?_, MF.rf⟩
      unfold sFrac sNO
      rw [if_pos (Or.inr hb)]
      simp only [q166_0, q166_1, q166_4, q166_5, q166_6, q166_9, q166_10, q166_11, q166_12, q166_13, q166_16, q166_19, q166_22, q166_23, q166_24, q166_27, q166_28, q166_31, q166_32, q166_33, q166_36, q166_37, q166_38, q166_39, q166_40, q166_43, ix0, e0, eq_false z', in01, eq_false hb, zCall_some, Option.toList, List.cons_append, List.nil_append, zb_0, zb_1, zem, z01, z11, nI_add, ↓reduceIte, not_true_eq_false, not_false_eq_true, n0T, n1F, n11T, true_or, or_true, false_or]
/-! ===== the reference: ends ===== -/
theorem goS_vc {σ : Nat → Nat} (hV : VC σ) {w x : Nat} (hP : PlOK (σ 0) w x) : VC (goS σ w x) := by
  obtain ⟨p1, p2, p3, p4, p5⟩ := hP
  have hn := hV.1.1
  unfold goS
  split
  · rename_i h
    have := p2 h
    exact (hV.set (p := 32 + x) (x := 1 - σ (32 + x)) (by omega) (by omega) (by omega) (by omega) (fun r _ _ => by omega) (fun r _ _ => by omega) (fun g _ _ => by omega) (fun g _ _ => by omega) (fun g _ _ => by omega)).cut
  · split
    · exact (hV.set (p := 3) (x := if σ 3 + x ≤ 999 then σ 3 + x else 999) (by omega) (by omega) (by omega) (fun _ => by split <;> omega) (fun r _ _ => by omega) (fun r _ _ => by omega) (fun g _ _ => by omega) (fun g _ _ => by omega) (fun g _ _ => by omega)).cut
    · split
      · rename_i h
        have := p4 h
        exact (hV.set (p := 2) (x := x) (by omega) (by omega) (fun _ => this) (by omega) (fun r _ _ => by omega) (fun r _ _ => by omega) (fun g _ _ => by omega) (fun g _ _ => by omega) (fun g _ _ => by omega)).cut
      · have := p5 (by omega)
        exact (hV.set (p := 1) (x := x) (by omega) (fun _ => this) (by omega) (by omega) (fun r _ _ => by omega) (fun r _ _ => by omega) (fun g _ _ => by omega) (fun g _ _ => by omega) (fun g _ _ => by omega)).cut
theorem zup_sw {σ : Nat → Nat} {p q x y : Nat} (h : p ≠ q) (i : Nat) : zup (zup σ p x) q y i = zup (zup σ q y) p x i := by
  unfold zup
  by_cases h1 : i = p
  · rw [if_pos h1, if_neg (show ¬ i = q by omega), if_pos h1]
  · by_cases h2 : i = q
    · rw [if_pos h2, if_neg h1, if_pos h2]
    · rw [if_neg h2, if_neg h1, if_neg h1, if_neg h2]
theorem m_plans {sc : Int32 × (Int32 → Int32)} {f : zF} {a : zA} {j : zJ} {d w x : Nat} {σ : Nat → Nat} (hR : MR σ a) (hV : VC σ) (hP : PlOK (σ 0) w x) : ∃ a' : zA, cf sc (d + 1) 168 [.ref 85, .int (nI w), .int (nI x)] f a j = some (none, f, a', j) ∧ MR (goS σ w x) a' ∧ ∀ k, k ≠ 86 → a' k = a k := by
  obtain ⟨p1, p2, p3, p4, p5⟩ := hP
  have hn := hV.1.1
  have hw := hV.2.2.2.2
  have ix4 : zIx 21 86 (nI 4) := ix86 (by omega)
  have hR4 : MR (zup σ 4 0) (zuA a 86 (nI 4) (nI 0)) := hR.set (by omega)
  rw [en168]
  unfold goS
  rcases (show w = 0 ∨ w = 1 ∨ w = 2 ∨ w = 3 by omega) with rfl | rfl | rfl | rfl
  · rw [if_pos rfl]
    have hx := p2 rfl
    have h1 := (hV.1.2.2.1 x hx).2.2
    have ix : zIx 21 86 (nI (32 + x)) := ix86 (by omega)
    have e := hR4 (32 + x) (by omega)
    rw [zup_ne (by omega)] at e
    have es : nI 1 - nI (σ (32 + x)) = nI (1 - σ (32 + x)) := pk_sub h1
    refine ⟨zuA (zuA a 86 (nI 4) (nI 0)) 86 (nI (32 + x)) (nI (1 - σ (32 + x))), ?_, (hR4.set (by omega)).ext (fun i _ => zup_sw (by omega) i), fun k hk => by rw [zuA_nk hk, zuA_nk hk]⟩
    simp only [q168_0, q168_1, q168_4, q168_5, q168_6, q168_7, q168_8, q168_11, q168_12, q168_15, q168_17, q168_18, q168_19, q168_20, q168_21, q168_24, q168_26, q168_27, q168_28, q168_29, q168_30, q168_31, q168_34, q168_35, q168_36, q168_39, q168_40, q168_43, q168_44, q168_45, q168_48, q168_49, q168_50, q168_51, q168_52, q168_55, q168_58, q168_61, q168_64, q168_65, q168_68, q168_69, q168_70, q168_71, q168_72, q168_73, q168_76, q168_77, q168_80, q168_81, q168_82, q168_85, q168_86, q168_89, q168_90, q168_91, q168_92, ix4, ix, e, es, zCall_some, Option.toList, List.cons_append, List.nil_append, zb_0, zb_1, zem, z01, z11, nI_add, ↓reduceIte, not_true_eq_false, not_false_eq_true, n0T, n1F, n11T, true_or, or_true, false_or]
  · rw [if_neg (by omega), if_pos rfl]
    have hx := p3 rfl
    have ix : zIx 21 86 (nI 3) := ix86 (by omega)
    have e := hR4 3 (by omega)
    rw [zup_ne (by omega)] at e
    refine ⟨zuA (zuA a 86 (nI 4) (nI 0)) 86 (nI 3) (nI (if σ 3 + x ≤ 999 then σ 3 + x else 999)), ?_, (hR4.set (by omega)).ext (fun i _ => zup_sw (by omega) i), fun k hk => by rw [zuA_nk hk, zuA_nk hk]⟩
    by_cases h9 : σ 3 + x ≤ 999
    · have c1 : nI (σ 3 + x) ≤ nI 999 := nI_le h9 (by omega)
      rw [if_pos h9]
      simp only [q168_0, q168_1, q168_4, q168_5, q168_6, q168_7, q168_8, q168_11, q168_12, q168_15, q168_17, q168_18, q168_19, q168_20, q168_21, q168_24, q168_26, q168_27, q168_28, q168_29, q168_30, q168_31, q168_34, q168_35, q168_36, q168_39, q168_40, q168_43, q168_44, q168_45, q168_48, q168_49, q168_50, q168_51, q168_52, q168_55, q168_58, q168_61, q168_64, q168_65, q168_68, q168_69, q168_70, q168_71, q168_72, q168_73, q168_76, q168_77, q168_80, q168_81, q168_82, q168_85, q168_86, q168_89, q168_90, q168_91, q168_92, ix4, ix, e, c1, zCall_some, Option.toList, List.cons_append, List.nil_append, zb_0, zb_1, zem, z01, z11, nI_add, ↓reduceIte, not_true_eq_false, not_false_eq_true, n0T, n1F, n11T, true_or, or_true, false_or]
    · have c1 : ¬ nI (σ 3 + x) ≤ nI 999 := nI_ge (by omega) (by omega)
      rw [if_neg h9]
      simp only [q168_0, q168_1, q168_4, q168_5, q168_6, q168_7, q168_8, q168_11, q168_12, q168_15, q168_17, q168_18, q168_19, q168_20, q168_21, q168_24, q168_26, q168_27, q168_28, q168_29, q168_30, q168_31, q168_34, q168_35, q168_36, q168_39, q168_40, q168_43, q168_44, q168_45, q168_48, q168_49, q168_50, q168_51, q168_52, q168_55, q168_58, q168_61, q168_64, q168_65, q168_68, q168_69, q168_70, q168_71, q168_72, q168_73, q168_76, q168_77, q168_80, q168_81, q168_82, q168_85, q168_86, q168_89, q168_90, q168_91, q168_92, ix4, ix, e, c1, zCall_some, Option.toList, List.cons_append, List.nil_append, zb_0, zb_1, zem, z01, z11, nI_add, ↓reduceIte, not_true_eq_false, not_false_eq_true, n0T, n1F, n11T, true_or, or_true, false_or]
  · rw [if_neg (by omega), if_neg (by omega), if_pos rfl]
    have ix : zIx 21 86 (nI 2) := ix86 (by omega)
    have n20 : ¬ nI 2 = 0 := by decide
    refine ⟨zuA (zuA a 86 (nI 4) (nI 0)) 86 (nI 2) (nI x), ?_, (hR4.set (by omega)).ext (fun i _ => zup_sw (by omega) i), fun k hk => by rw [zuA_nk hk, zuA_nk hk]⟩
    simp only [q168_0, q168_1, q168_4, q168_5, q168_6, q168_7, q168_8, q168_11, q168_12, q168_15, q168_17, q168_18, q168_19, q168_20, q168_21, q168_24, q168_26, q168_27, q168_28, q168_29, q168_30, q168_31, q168_34, q168_35, q168_36, q168_39, q168_40, q168_43, q168_44, q168_45, q168_48, q168_49, q168_50, q168_51, q168_52, q168_55, q168_58, q168_61, q168_64, q168_65, q168_68, q168_69, q168_70, q168_71, q168_72, q168_73, q168_76, q168_77, q168_80, q168_81, q168_82, q168_85, q168_86, q168_89, q168_90, q168_91, q168_92, ix4, ix, n20, ne2_1, zCall_some, Option.toList, List.cons_append, List.nil_append, zb_0, zb_1, zem, z01, z11, nI_add, ↓reduceIte, not_true_eq_false, not_false_eq_true, n0T, n1F, n11T, true_or, or_true, false_or]
  · rw [if_neg (by omega), if_neg (by omega), if_neg (by omega)]
    have ix : zIx 21 86 (nI 1) := ix86 (by omega)
    have n30 : ¬ nI 3 = 0 := by decide
    refine ⟨zuA (zuA a 86 (nI 4) (nI 0)) 86 (nI 1) (nI x), ?_, (hR4.set (by omega)).ext (fun i _ => zup_sw (by omega) i), fun k hk => by rw [zuA_nk hk, zuA_nk hk]⟩
    simp only [q168_0, q168_1, q168_4, q168_5, q168_6, q168_7, q168_8, q168_11, q168_12, q168_15, q168_17, q168_18, q168_19, q168_20, q168_21, q168_24, q168_26, q168_27, q168_28, q168_29, q168_30, q168_31, q168_34, q168_35, q168_36, q168_39, q168_40, q168_43, q168_44, q168_45, q168_48, q168_49, q168_50, q168_51, q168_52, q168_55, q168_58, q168_61, q168_64, q168_65, q168_68, q168_69, q168_70, q168_71, q168_72, q168_73, q168_76, q168_77, q168_80, q168_81, q168_82, q168_85, q168_86, q168_89, q168_90, q168_91, q168_92, ix4, ix, n30, ne3_1, ne3_2, zCall_some, Option.toList, List.cons_append, List.nil_append, zb_0, zb_1, zem, z01, z11, nI_add, ↓reduceIte, not_true_eq_false, not_false_eq_true, n0T, n1F, n11T, true_or, or_true, false_or]
theorem y_ends {sc : Int32 × (Int32 → Int32)} {f : zF} {a : zA} {j : zJ} {d : Nat} {σ : Nat → Nat} {what : Int32} (hR : MR σ a) (hV : VS σ) : ∃ (f' : zF) (a' : zA), cf sc (d + 7) 169 [.ref 85, .int what] f a j = some (some (.int (sEnds σ what)), f', a', j) ∧ MR σ a' ∧ MFW f f' a a' := by
  obtain ⟨v5, v6⟩ := hV.2.2.2.1
  rw [en169]
  unfold sEnds
  by_cases hb : zBtw what 0 2
  · rw [if_pos hb]
    obtain ⟨a1, s1, s2, s3⟩ := m_copies (sc := sc) (d := d + 5) (f := f) (a := a) (j := j) (q := 86) (t := 88) ⟨rfl, rfl⟩ ⟨rfl, rfl⟩ (by omega)
    have hS : ∀ i, i < 140 → a1 88 (nI i) = nI (σ i) := fun i hi => by rw [s2 i hi]; exact hR i hi
    have i6 : zIx 21 88 (nI 6) := ix88 (by omega)
    have key := zLoopP (n := σ 6) (g := fun s : (Nat × zA) => rn sc (cf sc (d + 6)) 169 27 [.ref 85, .int what, .int (nI s.1)] [] f s.2 j) (P := fun i s => s.1 = i ∧ MR (plF σ i) s.2 ∧ VC (plF σ i) ∧ ∀ k, k ≠ 86 → s.2 k = a1 k) (by
      intro i s hi hP
      obtain ⟨i', a2⟩ := s
      obtain ⟨rfl, hM, hC, hk⟩ := hP
      dsimp only at hM hC hk hi
      have hP1 : PlOK (plF σ i' 0) (σ (86 + i')) (σ (94 + i')) := by rw [(plF_ok hV i').1]; exact v6 i' hi
      obtain ⟨a3, g1, g2, g3⟩ := m_plans (sc := sc) (d := d + 5) (f := f) (j := j) hM hC hP1
      refine ⟨(i' + 1, a3), ⟨rfl, g2, goS_vc hC hP1, fun k q => (g3 k q).trans (hk k q)⟩, ?_⟩
      have c1 : ¬ nI (σ 6) ≤ nI i' := nI_ge hi (by omega)
      have i86 : zIx 21 88 (nI (86 + i')) := ix88 (by omega)
      have i94 : zIx 21 88 (nI (94 + i')) := ix88 (by omega)
      have e6 : a2 88 (nI 6) = nI (σ 6) := by rw [hk 88 (by omega)]; exact hS 6 (by omega)
      have e86 : a2 88 (nI (86 + i')) = nI (σ (86 + i')) := by rw [hk 88 (by omega)]; exact hS _ (by omega)
      have e94 : a2 88 (nI (94 + i')) = nI (σ (94 + i')) := by rw [hk 88 (by omega)]; exact hS _ (by omega)
      dsimp only
      rw [q169_27]
      simp only [q169_0, q169_1, q169_2, q169_3, q169_6, q169_9, q169_12, q169_13, q169_14, q169_15, q169_18, q169_19, q169_22, q169_25, q169_26, q169_28, q169_29, q169_32, q169_34, q169_35, q169_38, q169_39, q169_40, q169_43, q169_45, q169_46, q169_47, q169_48, q169_49, q169_52, q169_54, q169_55, q169_56, q169_57, q169_60, q169_63, q169_66, q169_67, q169_70, q169_71, q169_74, q169_75, q169_78, q169_81, q169_82, q169_83, q169_86, q169_87, q169_90, q169_93, q169_94, q169_97, q169_98, q169_99, q169_102, q169_103, q169_106, q169_109, q169_110, i6, e6, c1, i86, i94, e86, e94, g1, zCall_some, Option.toList, List.cons_append, List.nil_append, zb_0, zb_1, zem, z01, z11, nI_add, ↓reduceIte, not_true_eq_false, not_false_eq_true, n0T, n1F, n11T, true_or, or_true, false_or]) (0, a1) ⟨rfl, hR.of (s3 86 (by omega)), hV.1, fun _ _ => rfl⟩
    obtain ⟨⟨i, a2⟩, ⟨hi, hM, hC, hk⟩, e⟩ := key
    dsimp only at hM hC hk hi e
    rw [hi] at e
    obtain ⟨p0, pT⟩ := plF_ok hV (σ 6)
    have h9 := hC.2.2.2.2
    obtain ⟨f3, a3, t1, t2, t3⟩ := m_tells (sc := sc) (d := d) (f := f) (j := j) (w := plF σ (σ 6) 3) (tr := true) hM hC.1 (by omega) hC.2.2.2.1 (fun _ => pT)
    rw [if_pos rfl] at t1
    have hM3 := t3.r hM
    have hwa := m_waterAll (sc := sc) (d := d + 4) (f := f3) (j := j) hM3 hC.1 t2.2.1
    have hni := m_nightsAll (sc := sc) (d := d + 5) (f := f3) (j := j) hM3 hC.1 (fun g hg => (t2.2.2 g hg).2)
    rw [p0] at hwa hni
    have l2 := t2.1.2.1
    obtain ⟨a4, u1, u2, u3⟩ := m_copies (sc := sc) (d := d + 5) (f := f3) (a := a3) (j := j) (q := 88) (t := 86) ⟨rfl, rfl⟩ ⟨rfl, rfl⟩ (by omega)
    have hR4 : MR σ a4 := fun i hi => by rw [u2 i hi, t3.2.2 88 (by omega), hk 88 (by omega)]; exact hS i hi
    have ix3 : zIx 21 86 (nI 3) := ix86 (by omega)
    have e3 := hM 3 (by omega)
    have c1 : nI (σ 6) ≤ nI (σ 6) := nI_le (Nat.le_refl _) (by omega)
    have e6 : a2 88 (nI 6) = nI (σ 6) := by rw [hk 88 (by omega)]; exact hS 6 (by omega)
    have hnow : cf sc (d + 6) 132 [.ref 85] f a2 j = some (none, f3, a3, j) := by
      rw [en132]
      simp only [q132_0, q132_1, q132_2, q132_5, q132_6, q132_7, q132_8, q132_11, ix3, e3, t1, zCall_some, Option.toList, List.cons_append, List.nil_append, zb_0, zb_1, zem, z01, z11, nI_add, ↓reduceIte, not_true_eq_false, not_false_eq_true, n0T, n1F, n11T, true_or, or_true, false_or]
    refine ⟨f3, a4, ?_, hR4, ⟨t3.1, t3.2.1, fun k hk9 => by rw [u3 k (by omega), t3.2.2 k (by omega), hk k (by omega), s3 k (by omega)]⟩⟩
    simp only [q169_0, q169_1, q169_2, q169_3, q169_6, q169_9, q169_12, q169_13, q169_14, q169_15, q169_18, q169_19, q169_22, q169_25, q169_26, q169_28, q169_29, q169_32, q169_34, q169_35, q169_38, q169_39, q169_40, q169_43, q169_45, q169_46, q169_47, q169_48, q169_49, q169_52, q169_54, q169_55, q169_56, q169_57, q169_60, q169_63, q169_66, q169_67, q169_70, q169_71, q169_74, q169_75, q169_78, q169_81, q169_82, q169_83, q169_86, q169_87, q169_90, q169_93, q169_94, q169_97, q169_98, q169_99, q169_102, q169_103, q169_106, q169_109, q169_110, in02, eq_true hb, s1, zCall_some, Option.toList, List.cons_append, List.nil_append, zb_0, zb_1, zem, z01, z11, nI_add, ↓reduceIte, not_true_eq_false, not_false_eq_true, n0T, n1F, n11T, true_or, or_true, false_or]
    refine Eq.trans (show _ = _ from e) ?_
    by_cases h0 : what = nI 0
    · have h0' : what = 0 := h0
      rw [if_pos h0]
      simp only [q169_0, q169_1, q169_2, q169_3, q169_6, q169_9, q169_12, q169_13, q169_14, q169_15, q169_18, q169_19, q169_22, q169_25, q169_26, q169_27, q169_28, q169_29, q169_32, q169_34, q169_35, q169_38, q169_39, q169_40, q169_43, q169_45, q169_46, q169_47, q169_48, q169_49, q169_52, q169_54, q169_55, q169_56, q169_57, q169_60, q169_63, q169_66, q169_67, q169_70, q169_71, q169_74, q169_75, q169_78, q169_81, q169_82, q169_83, q169_86, q169_87, q169_90, q169_93, q169_94, q169_97, q169_98, q169_99, q169_102, q169_103, q169_106, q169_109, q169_110, i6, e6, c1, hnow, eq_true h0', hwa, u1, zCall_some, Option.toList, List.cons_append, List.nil_append, zb_0, zb_1, zem, z01, z11, nI_add, ↓reduceIte, not_true_eq_false, not_false_eq_true, n0T, n1F, n11T, true_or, or_true, false_or]
    · have h0' : ¬ what = 0 := h0
      rw [if_neg h0]
      by_cases h1 : what = nI 1
      · rw [if_pos h1]
        simp only [q169_0, q169_1, q169_2, q169_3, q169_6, q169_9, q169_12, q169_13, q169_14, q169_15, q169_18, q169_19, q169_22, q169_25, q169_26, q169_27, q169_28, q169_29, q169_32, q169_34, q169_35, q169_38, q169_39, q169_40, q169_43, q169_45, q169_46, q169_47, q169_48, q169_49, q169_52, q169_54, q169_55, q169_56, q169_57, q169_60, q169_63, q169_66, q169_67, q169_70, q169_71, q169_74, q169_75, q169_78, q169_81, q169_82, q169_83, q169_86, q169_87, q169_90, q169_93, q169_94, q169_97, q169_98, q169_99, q169_102, q169_103, q169_106, q169_109, q169_110, i6, e6, c1, hnow, eq_false h0', eq_true h1, l2, u1, zCall_some, Option.toList, List.cons_append, List.nil_append, zb_0, zb_1, zem, z01, z11, nI_add, ↓reduceIte, not_true_eq_false, not_false_eq_true, n0T, n1F, n11T, true_or, or_true, false_or]
      · rw [if_neg h1]
        simp only [q169_0, q169_1, q169_2, q169_3, q169_6, q169_9, q169_12, q169_13, q169_14, q169_15, q169_18, q169_19, q169_22, q169_25, q169_26, q169_27, q169_28, q169_29, q169_32, q169_34, q169_35, q169_38, q169_39, q169_40, q169_43, q169_45, q169_46, q169_47, q169_48, q169_49, q169_52, q169_54, q169_55, q169_56, q169_57, q169_60, q169_63, q169_66, q169_67, q169_70, q169_71, q169_74, q169_75, q169_78, q169_81, q169_82, q169_83, q169_86, q169_87, q169_90, q169_93, q169_94, q169_97, q169_98, q169_99, q169_102, q169_103, q169_106, q169_109, q169_110, i6, e6, c1, hnow, eq_false h0', eq_false h1, hni, u1, zCall_some, Option.toList, List.cons_append, List.nil_append, zb_0, zb_1, zem, z01, z11, nI_add, ↓reduceIte, not_true_eq_false, not_false_eq_true, n0T, n1F, n11T, true_or, or_true, false_or]
  · rw [if_neg hb]
    refine ⟨f, a, ?_, hR, MFW.rf⟩
    simp only [q169_0, q169_1, q169_2, q169_3, q169_6, q169_9, q169_12, q169_13, q169_14, q169_15, q169_18, q169_19, q169_22, q169_25, q169_26, q169_28, q169_29, q169_32, q169_34, q169_35, q169_38, q169_39, q169_40, q169_43, q169_45, q169_46, q169_47, q169_48, q169_49, q169_52, q169_54, q169_55, q169_56, q169_57, q169_60, q169_63, q169_66, q169_67, q169_70, q169_71, q169_74, q169_75, q169_78, q169_81, q169_82, q169_83, q169_86, q169_87, q169_90, q169_93, q169_94, q169_97, q169_98, q169_99, q169_102, q169_103, q169_106, q169_109, q169_110, in02, eq_false hb, zCall_some, Option.toList, List.cons_append, List.nil_append, zb_0, zb_1, zem, z01, z11, nI_add, ↓reduceIte, not_true_eq_false, not_false_eq_true, n0T, n1F, n11T, true_or, or_true, false_or]
/-! ===== the reference: looked, judge ===== -/
theorem y_looked {sc : Int32 × (Int32 → Int32)} {f : zF} {a : zA} {j : zJ} {d : Nat} {σ : Nat → Nat} (hR : MR σ a) (hV : VS σ) : ∃ (f' : zF) (a' : zA), cf sc (d + 7) 171 [.ref 85] f a j = some (some (.int (foS σ (hvOf σ (σ 3) true) 102 110 0 (σ 7))), f', a', j) ∧ MF f f' a a' := by
  have hVR := hV.1.1
  have hn := hVR.1
  obtain ⟨hb1, hb2⟩ := hV.2.2.2.2
  obtain ⟨f1, a1, t1, t2, t3⟩ := m_now (sc := sc) (d := d) (f := f) (j := j) hR hV
  have hR1 := t3.r hR
  have ix7 : zIx 21 86 (nI 7) := ix86 (by omega)
  have e7 := hR1 7 (by omega)
  refine ⟨f1, a1, ?_, t3⟩
  have key : ∀ m k, k + m = σ 7 → rn sc (cf sc (d + 6)) 171 6 [.ref 85, .int (nI k)] [] f1 a1 j = some (some (.int (foS σ (hvOf σ (σ 3) true) 102 110 k m)), f1, a1, j) := by
    intro m
    induction m with
    | zero =>
      intro k hk
      have c1 : nI (σ 7) ≤ nI k := nI_le (by omega) (by omega)
      simp only [q171_6, q171_7, q171_8, q171_11, q171_13, q171_14, q171_51, q171_53, ix7, e7, c1, foS, zCall_some, Option.toList, List.cons_append, List.nil_append, zb_0, zb_1, zem, z01, z11, nI_add, ↓reduceIte, not_true_eq_false, not_false_eq_true, n0T, n1F, n11T, true_or, or_true, false_or]
    | succ m ih =>
      intro k hk
      obtain ⟨h1, h2⟩ := hb2 k (by omega)
      have c1 : ¬ nI (σ 7) ≤ nI k := nI_ge (by omega) (by omega)
      have i1 : zIx 21 86 (nI (102 + k)) := ix86 (by omega)
      have i2 : zIx 21 86 (nI (110 + k)) := ix86 (by omega)
      have i93 : zIx 21 93 (nI (σ (102 + k))) := ix93 (by omega)
      have e1 := hR1 (102 + k) (by omega)
      have e2 := hR1 (110 + k) (by omega)
      have r93 := t2.2.1 _ h1
      have h97 := hv_97 hVR (tr := true) (fun _ => hV.2.1) h1
      have q1 : (nI (hvOf σ (σ 3) true (σ (102 + k))) = nI (σ (110 + k))) = (hvOf σ (σ 3) true (σ (102 + k)) = σ (110 + k)) := propext (nI_eq (by omega) (by omega))
      rw [foS_s, q171_6]
      by_cases h : hvOf σ (σ 3) true (σ (102 + k)) = σ (110 + k)
      · rw [if_pos h, ← ih (k + 1) (by omega)]
        simp only [q171_0, q171_1, q171_4, q171_5, q171_7, q171_8, q171_11, q171_13, q171_14, q171_17, q171_18, q171_21, q171_22, q171_25, q171_27, q171_28, q171_29, q171_30, q171_31, q171_32, q171_35, q171_37, q171_38, q171_39, q171_40, q171_43, q171_44, q171_45, q171_48, q171_51, q171_53, ix7, e7, c1, i1, i2, i93, e1, e2, r93, q1, eq_true h, zCall_some, Option.toList, List.cons_append, List.nil_append, zb_0, zb_1, zem, z01, z11, nI_add, ↓reduceIte, not_true_eq_false, not_false_eq_true, n0T, n1F, n11T, true_or, or_true, false_or]
      · rw [if_neg h]
        simp only [q171_0, q171_1, q171_4, q171_5, q171_7, q171_8, q171_11, q171_13, q171_14, q171_17, q171_18, q171_21, q171_22, q171_25, q171_27, q171_28, q171_29, q171_30, q171_31, q171_32, q171_35, q171_37, q171_38, q171_39, q171_40, q171_43, q171_44, q171_45, q171_48, q171_51, q171_53, ix7, e7, c1, i1, i2, i93, e1, e2, r93, q1, eq_false h, zCall_some, Option.toList, List.cons_append, List.nil_append, zb_0, zb_1, zem, z01, z11, nI_add, ↓reduceIte, not_true_eq_false, not_false_eq_true, n0T, n1F, n11T, true_or, or_true, false_or]
  rw [en171, ← key (σ 7) 0 (by omega)]
  simp only [q171_0, q171_1, q171_4, q171_5, t1, zCall_some, Option.toList, List.cons_append, List.nil_append, zb_0, zb_1, zem, z01, z11, nI_add, ↓reduceIte, not_true_eq_false, not_false_eq_true, n0T, n1F, n11T, true_or, or_true, false_or]
theorem jgF_s (hv : Nat → Nat) (ti : Nat → Int64) (tz i k m : Nat) : jgF hv ti tz i k (m + 1) = if tz ≤ i + k then nI (100 + k) else if ti (i + k) = lN (hv k) then jgF hv ti tz i (k + 1) m else nI k := rfl
theorem y_judge {sc : Int32 × (Int32 → Int32)} {f : zF} {a : zA} {j : zJ} {d : Nat} {σ : Nat → Nat} {T : TS} {v i : Int32} (hR : MR σ a) (hV : VS σ) (hT : MT T a j) (hVT : VT T) : ∃ (f' : zF) (a' : zA), cf sc (d + 7) 172 [.ref 85, .int v, .int i] f a j = some (some (.int (jgT σ T v i)), f', a', j) ∧ MF f f' a a' := by
  have hVR := hV.1.1
  have hn := hVR.1
  rw [en172]
  unfold jgT
  by_cases hv : zBtw v 0 5
  · rw [if_pos hv]
    obtain ⟨t, t1, t2, rfl⟩ := zBtw_of (by omega) (by omega) hv
    have ht : t < 6 := by omega
    have i4 : zIx 21 104 (nI t) := ix104 ht
    have i5 : zIx 21 105 (nI t) := ix105 ht
    have ec : (nI t).toNatClampNeg = t := nI_clamp (by omega)
    rw [ec]
    obtain ⟨g1, g2, g3⟩ := hT t ht
    have h60 := hVT.le ht
    by_cases hs : (T t).1 = -1 ∨ (T t).1 = nI 0
    · rw [if_pos hs]
      have c0 : (T t).1 ≤ 0 := by rcases hs with q | q <;> rw [q] <;> decide
      obtain ⟨f1, a1, s1, s2, s3⟩ := m_now (sc := sc) (d := d) (f := f) (j := j) hR hV
      have hR1 := s3.r hR
      have ix0 : zIx 21 86 (nI 0) := ix86 (by omega)
      have e0 := hR1 0 (by omega)
      have g1' : a1 104 (nI t) = (T t).1 := by rw [s3.2.2 104 (by omega)]; exact g1
      have g2' : a1 105 (nI t) = nI (T t).2.1 := by rw [s3.2.2 105 (by omega)]; exact g2
      refine ⟨f1, a1, ?_, s3⟩
      have hbeg : rn sc (cf sc (d + 6)) 172 0 [.ref 85, .int (nI t), .int i, .null, .null, .null] [] f a j = rn sc (cf sc (d + 6)) 172 27 [.ref 85, .int (nI t), .int i, .int (nI 0), .null, .null] [] f1 a1 j := by
        simp only [q172_0, q172_1, q172_4, q172_9, q172_10, q172_13, q172_14, q172_15, q172_21, q172_22, q172_25, q172_26, m_isTape, eq_true hv, i4, g1, c0, s1, zCall_some, Option.toList, List.cons_append, List.nil_append, zb_0, zb_1, zem, z01, z11, nI_add, ↓reduceIte, not_true_eq_false, not_false_eq_true, n0T, n1F, n11T, true_or, or_true, false_or]
      rw [hbeg]
      by_cases h0 : σ 0 = 0
      · rw [if_pos h0]
        have c1 : nI (σ 0) ≤ nI 0 := nI_le (by omega) (by omega)
        simp only [q172_27, q172_28, q172_29, q172_32, q172_33, q172_34, q172_110, q172_112, ix0, e0, c1, zCall_some, Option.toList, List.cons_append, List.nil_append, zb_0, zb_1, zem, z01, z11, nI_add, ↓reduceIte, not_true_eq_false, not_false_eq_true, n0T, n1F, n11T, true_or, or_true, false_or]
      · rw [if_neg h0]
        have c1 : ¬ nI (σ 0) ≤ nI 0 := nI_ge (by omega) (by omega)
        by_cases hi : i < 0
        · rw [if_pos hi]
          have c2 : i.toInt64 + (nI 0).toInt64 < 0 := by
            have e9 : (nI 0).toInt64 = 0 := by decide
            rw [e9, Int64.add_zero, Int64.lt_iff_toInt_lt, Int32.toInt_toInt64]
            have h1 := Int32.lt_iff_toInt_lt.mp hi
            exact h1
          by_cases hm : (T t).1 < 0
          · simp only [q172_1, q172_4, q172_7, q172_8, q172_9, q172_10, q172_13, q172_14, q172_15, q172_18, q172_20, q172_21, q172_22, q172_25, q172_26, q172_27, q172_28, q172_29, q172_32, q172_33, q172_34, q172_37, q172_38, q172_39, q172_40, q172_41, q172_42, q172_44, q172_45, q172_48, q172_49, q172_50, q172_53, q172_55, q172_56, q172_57, q172_60, q172_62, q172_63, q172_66, q172_67, q172_68, q172_69, q172_70, q172_73, q172_75, q172_76, q172_77, q172_78, q172_79, q172_82, q172_84, q172_85, q172_86, q172_88, q172_89, q172_90, q172_91, q172_92, q172_95, q172_96, q172_97, q172_98, q172_99, q172_102, q172_103, q172_104, q172_107, q172_110, q172_112, ix0, e0, c1, i4, g1', eq_true hm, zCall_some, Option.toList, List.cons_append, List.nil_append, zb_0, zb_1, zem, z01, z11, nI_add, ↓reduceIte, not_true_eq_false, not_false_eq_true, n0T, n1F, n11T, true_or, or_true, false_or]
          · simp only [q172_1, q172_4, q172_7, q172_8, q172_9, q172_10, q172_13, q172_14, q172_15, q172_18, q172_20, q172_21, q172_22, q172_25, q172_26, q172_27, q172_28, q172_29, q172_32, q172_33, q172_34, q172_37, q172_38, q172_39, q172_40, q172_41, q172_42, q172_44, q172_45, q172_48, q172_49, q172_50, q172_53, q172_55, q172_56, q172_57, q172_60, q172_62, q172_63, q172_66, q172_67, q172_68, q172_69, q172_70, q172_73, q172_75, q172_76, q172_77, q172_78, q172_79, q172_82, q172_84, q172_85, q172_86, q172_88, q172_89, q172_90, q172_91, q172_92, q172_95, q172_96, q172_97, q172_98, q172_99, q172_102, q172_103, q172_104, q172_107, q172_110, q172_112, ix0, e0, c1, i4, g1', eq_false hm, lg_cmp_lt, eq_true c2, zCall_some, Option.toList, List.cons_append, List.nil_append, zb_0, zb_1, zem, z01, z11, nI_add, ↓reduceIte, not_true_eq_false, not_false_eq_true, n0T, n1F, n11T, true_or, or_true, false_or]
        · rw [if_neg hi]
          obtain ⟨x, x1, rfl⟩ := nI_of hi
          rw [nI_clamp x1]
          have key : ∀ m k (v4 : Value), k + m = σ 0 → rn sc (cf sc (d + 6)) 172 27 [.ref 85, .int (nI t), .int (nI x), .int (nI k), v4, .null] [] f1 a1 j = some (some (.int (jgF (hvOf σ (σ 3) true) (T t).2.2 (T t).2.1 x k m)), f1, a1, j) := by
            intro m
            induction m with
            | zero =>
              intro k v4 hk
              have c2 : nI (σ 0) ≤ nI k := nI_le (by omega) (by omega)
              simp only [q172_27, q172_28, q172_29, q172_32, q172_33, q172_34, q172_110, q172_112, ix0, e0, c2, jgF, zCall_some, Option.toList, List.cons_append, List.nil_append, zb_0, zb_1, zem, z01, z11, nI_add, ↓reduceIte, not_true_eq_false, not_false_eq_true, n0T, n1F, n11T, true_or, or_true, false_or]
            | succ m ih =>
              intro k v4 hk
              have c2 : ¬ nI (σ 0) ≤ nI k := nI_ge (by omega) (by omega)
              have el1 : (nI x).toInt64 = lN x := i64_nI x1
              have el2 : (nI k).toInt64 = lN k := i64_nI (by omega)
              have el3 : (nI (T t).2.1).toInt64 = lN (T t).2.1 := i64_nI (by omega)
              have c3 : ¬ lN (x + k) < 0 := by
                intro q
                have := (pk_lLT (a := x + k) (b := 0) (by omega) (by omega)).mp q
                omega
              have q4 : (lN (x + k) < lN (T t).2.1) = (x + k < (T t).2.1) := propext (pk_lLT (by omega) (by omega))
              rw [jgF_s, q172_27]
              by_cases w1 : (T t).2.1 ≤ x + k
              · rw [if_pos w1]
                have w1' : ¬ x + k < (T t).2.1 := by omega
                by_cases hm : (T t).1 < 0
                · simp only [q172_0, q172_1, q172_4, q172_7, q172_8, q172_9, q172_10, q172_13, q172_14, q172_15, q172_18, q172_20, q172_21, q172_22, q172_25, q172_26, q172_28, q172_29, q172_32, q172_33, q172_34, q172_37, q172_38, q172_39, q172_40, q172_41, q172_42, q172_44, q172_45, q172_48, q172_49, q172_50, q172_53, q172_55, q172_56, q172_57, q172_60, q172_62, q172_63, q172_66, q172_67, q172_68, q172_69, q172_70, q172_73, q172_75, q172_76, q172_77, q172_78, q172_79, q172_82, q172_84, q172_85, q172_86, q172_88, q172_89, q172_90, q172_91, q172_92, q172_95, q172_96, q172_97, q172_98, q172_99, q172_102, q172_103, q172_104, q172_107, q172_110, q172_112, ix0, e0, c2, i4, g1', eq_true hm, el1, el2, lN_add, zCall_some, Option.toList, List.cons_append, List.nil_append, zb_0, zb_1, zem, z01, z11, nI_add, ↓reduceIte, not_true_eq_false, not_false_eq_true, n0T, n1F, n11T, true_or, or_true, false_or]
                · simp only [q172_0, q172_1, q172_4, q172_7, q172_8, q172_9, q172_10, q172_13, q172_14, q172_15, q172_18, q172_20, q172_21, q172_22, q172_25, q172_26, q172_28, q172_29, q172_32, q172_33, q172_34, q172_37, q172_38, q172_39, q172_40, q172_41, q172_42, q172_44, q172_45, q172_48, q172_49, q172_50, q172_53, q172_55, q172_56, q172_57, q172_60, q172_62, q172_63, q172_66, q172_67, q172_68, q172_69, q172_70, q172_73, q172_75, q172_76, q172_77, q172_78, q172_79, q172_82, q172_84, q172_85, q172_86, q172_88, q172_89, q172_90, q172_91, q172_92, q172_95, q172_96, q172_97, q172_98, q172_99, q172_102, q172_103, q172_104, q172_107, q172_110, q172_112, ix0, e0, c2, i4, i5, g1', g2', eq_false hm, el1, el2, el3, lN_add, lg_cmp_lt, eq_false c3, q4, eq_false w1', zCall_some, Option.toList, List.cons_append, List.nil_append, zb_0, zb_1, zem, z01, z11, nI_add, ↓reduceIte, not_true_eq_false, not_false_eq_true, n0T, n1F, n11T, true_or, or_true, false_or]
              · rw [if_neg w1]
                have w1' : x + k < (T t).2.1 := by omega
                have hm : ¬ (T t).1 < 0 := by
                  rcases hs with q | q
                  · exfalso
                    rcases hVT t ht with ⟨-, z⟩ | ⟨⟨s, s5, z⟩, -⟩
                    · omega
                    · rw [q] at z
                      exact absurd z.symm ((by decide : ∀ s, s < 5 → ¬ nI s = -1) s s5)
                  · rw [q]; decide
                have i106 : zIx 22 106 (nI (60 * t + (x + k))) := ix106 (by omega)
                have i93 : zIx 21 93 (nI k) := ix93 (by omega)
                have ei := g3 (x + k) w1'
                have r93 := s2.2.1 k (by omega)
                have h97 := hv_97 hVR (tr := true) (fun _ => hV.2.1) (g := k) (by omega)
                have el4 : (nI (hvOf σ (σ 3) true k)).toInt64 = lN (hvOf σ (σ 3) true k) := i64_nI (by omega)
                by_cases w2 : (T t).2.2 (x + k) = lN (hvOf σ (σ 3) true k)
                · rw [if_pos w2, ← ih (k + 1) (.long (lN (x + k))) (by omega)]
                  simp only [q172_0, q172_1, q172_4, q172_7, q172_8, q172_9, q172_10, q172_13, q172_14, q172_15, q172_18, q172_20, q172_21, q172_22, q172_25, q172_26, q172_28, q172_29, q172_32, q172_33, q172_34, q172_37, q172_38, q172_39, q172_40, q172_41, q172_42, q172_44, q172_45, q172_48, q172_49, q172_50, q172_53, q172_55, q172_56, q172_57, q172_60, q172_62, q172_63, q172_66, q172_67, q172_68, q172_69, q172_70, q172_73, q172_75, q172_76, q172_77, q172_78, q172_79, q172_82, q172_84, q172_85, q172_86, q172_88, q172_89, q172_90, q172_91, q172_92, q172_95, q172_96, q172_97, q172_98, q172_99, q172_102, q172_103, q172_104, q172_107, q172_110, q172_112, ix0, e0, c2, i4, i5, g1', g2', eq_false hm, el1, el2, el3, lN_add, lg_cmp_lt, eq_false c3, q4, eq_true w1', lN_i, pk_mul, i106, ei, i93, r93, el4, lg_cmp_eq, eq_true w2, zCall_some, Option.toList, List.cons_append, List.nil_append, zb_0, zb_1, zem, z01, z11, nI_add, ↓reduceIte, not_true_eq_false, not_false_eq_true, n0T, n1F, n11T, true_or, or_true, false_or]
                · rw [if_neg w2]
                  simp only [q172_0, q172_1, q172_4, q172_7, q172_8, q172_9, q172_10, q172_13, q172_14, q172_15, q172_18, q172_20, q172_21, q172_22, q172_25, q172_26, q172_28, q172_29, q172_32, q172_33, q172_34, q172_37, q172_38, q172_39, q172_40, q172_41, q172_42, q172_44, q172_45, q172_48, q172_49, q172_50, q172_53, q172_55, q172_56, q172_57, q172_60, q172_62, q172_63, q172_66, q172_67, q172_68, q172_69, q172_70, q172_73, q172_75, q172_76, q172_77, q172_78, q172_79, q172_82, q172_84, q172_85, q172_86, q172_88, q172_89, q172_90, q172_91, q172_92, q172_95, q172_96, q172_97, q172_98, q172_99, q172_102, q172_103, q172_104, q172_107, q172_110, q172_112, ix0, e0, c2, i4, i5, g1', g2', eq_false hm, el1, el2, el3, lN_add, lg_cmp_lt, eq_false c3, q4, eq_true w1', lN_i, pk_mul, i106, ei, i93, r93, el4, lg_cmp_eq, eq_false w2, zCall_some, Option.toList, List.cons_append, List.nil_append, zb_0, zb_1, zem, z01, z11, nI_add, ↓reduceIte, not_true_eq_false, not_false_eq_true, n0T, n1F, n11T, true_or, or_true, false_or]
          exact key (σ 0) 0 .null (by omega)
    · rw [if_neg hs]
      have c0 : ¬ (T t).1 ≤ 0 := by
        rcases hVT t ht with ⟨z, -⟩ | ⟨⟨s, s5, z⟩, -⟩
        · exact absurd (Or.inl z) hs
        · rw [z]
          have : s ≠ 0 := fun q => hs (Or.inr (by rw [z, q]))
          exact nI_nle (by omega) (by omega)
      refine ⟨f, a, ?_, MF.rf⟩
      simp only [q172_0, q172_1, q172_4, q172_7, q172_8, q172_9, q172_10, q172_13, q172_14, q172_15, q172_18, q172_20, q172_21, q172_22, q172_25, q172_26, q172_27, q172_28, q172_29, q172_32, q172_33, q172_34, q172_37, q172_38, q172_39, q172_40, q172_41, q172_42, q172_44, q172_45, q172_48, q172_49, q172_50, q172_53, q172_55, q172_56, q172_57, q172_60, q172_62, q172_63, q172_66, q172_67, q172_68, q172_69, q172_70, q172_73, q172_75, q172_76, q172_77, q172_78, q172_79, q172_82, q172_84, q172_85, q172_86, q172_88, q172_89, q172_90, q172_91, q172_92, q172_95, q172_96, q172_97, q172_98, q172_99, q172_102, q172_103, q172_104, q172_107, q172_110, q172_112, m_isTape, eq_true hv, i4, g1, c0, zCall_some, Option.toList, List.cons_append, List.nil_append, zb_0, zb_1, zem, z01, z11, nI_add, ↓reduceIte, not_true_eq_false, not_false_eq_true, n0T, n1F, n11T, true_or, or_true, false_or]
  · rw [if_neg hv]
    refine ⟨f, a, ?_, MF.rf⟩
    simp only [q172_0, q172_1, q172_4, q172_7, q172_8, q172_9, q172_10, q172_13, q172_14, q172_15, q172_18, q172_20, q172_21, q172_22, q172_25, q172_26, q172_27, q172_28, q172_29, q172_32, q172_33, q172_34, q172_37, q172_38, q172_39, q172_40, q172_41, q172_42, q172_44, q172_45, q172_48, q172_49, q172_50, q172_53, q172_55, q172_56, q172_57, q172_60, q172_62, q172_63, q172_66, q172_67, q172_68, q172_69, q172_70, q172_73, q172_75, q172_76, q172_77, q172_78, q172_79, q172_82, q172_84, q172_85, q172_86, q172_88, q172_89, q172_90, q172_91, q172_92, q172_95, q172_96, q172_97, q172_98, q172_99, q172_102, q172_103, q172_104, q172_107, q172_110, q172_112, m_isTape, eq_false hv, zCall_some, Option.toList, List.cons_append, List.nil_append, zb_0, zb_1, zem, z01, z11, nI_add, ↓reduceIte, not_true_eq_false, not_false_eq_true, n0T, n1F, n11T, true_or, or_true, false_or]
