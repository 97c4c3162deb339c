/-! ===== the reference: reachOf, trades, seen, plan, book, image, count, feed ===== -/
theorem zBtw_no {w : Int32} {hi q : Nat} (hh : hi < 2 ^ 30) (h : ¬ zBtw w 0 hi) (hq : q ≤ hi) : ¬ w = nI q := fun e => h (by rw [e]; exact zBtw_nI hh (by omega) hq)
theorem y_reachOf {sc : Int32 × (Int32 → Int32)} {f : zF} {a : zA} {j : zJ} {d : Nat} {σ : Nat → Nat} {v w : Int32} (hR : MR σ a) (hV : VR σ) : cf sc (d + 2) 110 [.ref 85, .int v, .int w] f a j = some (some (.int (roS σ v w)), f, a, j) := by
  have hn := hV.1
  have ix0 : zIx 21 86 (nI 0) := ix86 (by omega)
  have e0 := hR 0 (by omega)
  rw [en110]
  unfold roS
  by_cases hv : zBtw v 0 3
  · rw [if_pos hv]
    by_cases hw : zBtw w 0 2
    · obtain ⟨r, r1, r2, rfl⟩ := zBtw_of (by omega) (by omega) hv
      obtain ⟨q, q1, q2, rfl⟩ := zBtw_of (by omega) (by omega) hw
      have ec : (nI r).toNatClampNeg = r := nI_clamp (by omega)
      have i8 : zIx 21 86 (nI (8 + r)) := ix86 (by omega)
      have i12 : zIx 21 86 (nI (12 + r)) := ix86 (by omega)
      have e8 := hR (8 + r) (by omega)
      have e12 := hR (12 + r) (by omega)
      rw [ec]
      rcases (show q = 0 ∨ q = 1 ∨ q = 2 by omega) with rfl | rfl | rfl
      · have c1 : ¬ nI 2 ≤ nI 0 := by decide
        rw [if_pos rfl]
        simp only [q110_0, q110_1, q110_2, q110_3, q110_6, q110_9, q110_12, q110_13, q110_14, q110_15, q110_18, q110_21, q110_24, q110_25, q110_26, q110_27, q110_28, q110_31, q110_32, q110_35, q110_36, q110_39, q110_41, q110_44, q110_46, q110_47, q110_48, q110_49, q110_50, q110_51, q110_52, q110_53, q110_55, q110_57, q110_58, q110_61, q110_62, q110_63, q110_66, q110_67, q110_70, q110_72, q110_74, q110_75, q110_76, q110_77, q110_80, q110_83, q110_86, q110_89, q110_90, in03, in02, eq_true hv, eq_true hw, c1, i8, e8, zCall_some, Option.toList, List.cons_append, List.nil_append, zb_0, zb_1, zem, z01, z11, nI_add, ↓reduceIte, not_true_eq_false, not_false_eq_true, n0T, n1F, n11T, true_or, or_true, false_or]
      · have c1 : ¬ nI 2 ≤ nI 1 := by decide
        rw [if_neg ne1_0, if_pos rfl]
        simp only [q110_0, q110_1, q110_2, q110_3, q110_6, q110_9, q110_12, q110_13, q110_14, q110_15, q110_18, q110_21, q110_24, q110_25, q110_26, q110_27, q110_28, q110_31, q110_32, q110_35, q110_36, q110_39, q110_41, q110_44, q110_46, q110_47, q110_48, q110_49, q110_50, q110_51, q110_52, q110_53, q110_55, q110_57, q110_58, q110_61, q110_62, q110_63, q110_66, q110_67, q110_70, q110_72, q110_74, q110_75, q110_76, q110_77, q110_80, q110_83, q110_86, q110_89, q110_90, in03, in02, eq_true hv, eq_true hw, c1, i12, e12, zCall_some, Option.toList, List.cons_append, List.nil_append, zb_0, zb_1, zem, z01, z11, nI_add, ↓reduceIte, not_true_eq_false, not_false_eq_true, n0T, n1F, n11T, true_or, or_true, false_or]
      · have c1 : nI 2 ≤ nI 2 := by decide
        rw [if_neg ne2_0, if_neg ne2_1, if_pos rfl]
        have key := zLoop (n := σ 0) (g := fun i => rn sc (cf sc (d + 1)) 110 55 [.ref 85, .int (nI r), .int (nI 2), .int (nI (ctI σ r i)), .int (nI i)] [] f a j) (by
          intro i hi
          have c2 : ¬ nI (σ 0) ≤ nI i := nI_ge hi (by omega)
          have i16 : zIx 21 86 (nI (16 + i)) := ix86 (by omega)
          have e16 := hR (16 + i) (by omega)
          have h4 := (hV.2.2.1 i hi).1
          have e1 : (nI (σ (16 + i)) = nI r) = (σ (16 + i) = r) := propext (nI_eq (by omega) (by omega))
          rw [q110_55, ctI_s]
          by_cases h : σ (16 + i) = r
          · simp only [q110_0, q110_1, q110_2, q110_3, q110_6, q110_9, q110_12, q110_13, q110_14, q110_15, q110_18, q110_21, q110_24, q110_25, q110_26, q110_27, q110_28, q110_31, q110_32, q110_35, q110_36, q110_39, q110_41, q110_44, q110_46, q110_47, q110_48, q110_49, q110_50, q110_51, q110_52, q110_53, q110_57, q110_58, q110_61, q110_62, q110_63, q110_66, q110_67, q110_70, q110_72, q110_74, q110_75, q110_76, q110_77, q110_80, q110_83, q110_86, q110_89, q110_90, ix0, e0, c2, i16, e16, e1, h, zCall_some, Option.toList, List.cons_append, List.nil_append, zb_0, zb_1, zem, z01, z11, nI_add, ↓reduceIte, not_true_eq_false, not_false_eq_true, n0T, n1F, n11T, true_or, or_true, false_or]
          · simp only [q110_0, q110_1, q110_2, q110_3, q110_6, q110_9, q110_12, q110_13, q110_14, q110_15, q110_18, q110_21, q110_24, q110_25, q110_26, q110_27, q110_28, q110_31, q110_32, q110_35, q110_36, q110_39, q110_41, q110_44, q110_46, q110_47, q110_48, q110_49, q110_50, q110_51, q110_52, q110_53, q110_57, q110_58, q110_61, q110_62, q110_63, q110_66, q110_67, q110_70, q110_72, q110_74, q110_75, q110_76, q110_77, q110_80, q110_83, q110_86, q110_89, q110_90, ix0, e0, c2, i16, e16, e1, h, Nat.add_zero, zCall_some, Option.toList, List.cons_append, List.nil_append, zb_0, zb_1, zem, z01, z11, nI_add, ↓reduceIte, not_true_eq_false, not_false_eq_true, n0T, n1F, n11T, true_or, or_true, false_or])
        have c2 : nI (σ 0) ≤ nI (σ 0) := nI_le (Nat.le_refl _) (by omega)
        simp only [q110_0, q110_1, q110_2, q110_3, q110_6, q110_9, q110_12, q110_13, q110_14, q110_15, q110_18, q110_21, q110_24, q110_25, q110_26, q110_27, q110_28, q110_31, q110_32, q110_35, q110_36, q110_39, q110_41, q110_44, q110_46, q110_47, q110_48, q110_49, q110_50, q110_51, q110_52, q110_53, q110_57, q110_58, q110_61, q110_62, q110_63, q110_66, q110_67, q110_70, q110_72, q110_74, q110_75, q110_76, q110_77, q110_80, q110_83, q110_86, q110_89, q110_90, in03, in02, eq_true hv, eq_true hw, c1, zCall_some, Option.toList, List.cons_append, List.nil_append, zb_0, zb_1, zem, z01, z11, nI_add, ↓reduceIte, not_true_eq_false, not_false_eq_true, n0T, n1F, n11T, true_or, or_true, false_or]
        refine Eq.trans (show _ = _ from key) ?_
        simp only [q110_55, q110_57, q110_58, q110_61, q110_62, q110_63, q110_89, q110_90, ix0, e0, c2, zCall_some, Option.toList, List.cons_append, List.nil_append, zb_0, zb_1, zem, z01, z11, nI_add, ↓reduceIte, not_true_eq_false, not_false_eq_true, n0T, n1F, n11T, true_or, or_true, false_or]
    · have n0' := zBtw_no (by omega) hw (q := 0) (by omega)
      have n1' := zBtw_no (by omega) hw (q := 1) (by omega)
      have n2' := zBtw_no (by omega) hw (q := 2) (by omega)
      rw [if_neg n0', if_neg n1', if_neg n2']
      simp only [q110_0, q110_1, q110_2, q110_3, q110_6, q110_9, q110_12, q110_13, q110_14, q110_15, q110_18, q110_21, q110_24, q110_25, q110_26, q110_27, q110_28, q110_31, q110_32, q110_35, q110_36, q110_39, q110_41, q110_44, q110_46, q110_47, q110_48, q110_49, q110_50, q110_51, q110_52, q110_53, q110_55, q110_57, q110_58, q110_61, q110_62, q110_63, q110_66, q110_67, q110_70, q110_72, q110_74, q110_75, q110_76, q110_77, q110_80, q110_83, q110_86, q110_89, q110_90, in03, in02, eq_true hv, eq_false hw, zCall_some, Option.toList, List.cons_append, List.nil_append, zb_0, zb_1, zem, z01, z11, nI_add, ↓reduceIte, not_true_eq_false, not_false_eq_true, n0T, n1F, n11T, true_or, or_true, false_or]
  · rw [if_neg hv]
    simp only [q110_0, q110_1, q110_2, q110_3, q110_6, q110_9, q110_12, q110_13, q110_14, q110_15, q110_18, q110_21, q110_24, q110_25, q110_26, q110_27, q110_28, q110_31, q110_32, q110_35, q110_36, q110_39, q110_41, q110_44, q110_46, q110_47, q110_48, q110_49, q110_50, q110_51, q110_52, q110_53, q110_55, q110_57, q110_58, q110_61, q110_62, q110_63, q110_66, q110_67, q110_70, q110_72, q110_74, q110_75, q110_76, q110_77, q110_80, q110_83, q110_86, q110_89, q110_90, in03, eq_false hv, zCall_some, Option.toList, List.cons_append, List.nil_append, zb_0, zb_1, zem, z01, z11, nI_add, ↓reduceIte, not_true_eq_false, not_false_eq_true, n0T, n1F, n11T, true_or, or_true, false_or]
theorem y_undoTrade {sc : Int32 × (Int32 → Int32)} {f : zF} {a : zA} {j : zJ} {d : Nat} {σ : Nat → Nat} (hR : MR σ a) (h4 : σ 4 ≤ 12) : ∃ a' : zA, cf sc (d + 1) 148 [.ref 85] f a j = some (some (.int (utS σ).1), f, a', j) ∧ MR (utS σ).2 a' ∧ ∀ k, k ≠ 86 → a' k = a k := by
  have ix : zIx 21 86 (nI 4) := ix86 (by omega)
  have e4 := hR 4 (by omega)
  rw [en148]
  unfold utS
  by_cases h : σ 4 = 0
  · rw [if_pos h]
    have c1 : nI (σ 4) = 0 := by rw [h]; rfl
    refine ⟨a, ?_, hR, fun _ _ => rfl⟩
    simp only [q148_0, q148_1, q148_4, q148_5, q148_6, q148_9, q148_11, q148_12, q148_13, q148_16, q148_17, q148_18, q148_19, q148_20, q148_21, q148_22, q148_23, q148_26, q148_27, q148_28, ix, e4, c1, zCall_some, Option.toList, List.cons_append, List.nil_append, zb_0, zb_1, zem, z01, z11, nI_add, ↓reduceIte, not_true_eq_false, not_false_eq_true, n0T, n1F, n11T, true_or, or_true, false_or]
  · rw [if_neg h]
    have c1 : ¬ nI (σ 4) = 0 := nI_ne0 (by omega) (by omega)
    have es : nI (σ 4) - nI 1 = nI (σ 4 - 1) := pk_sub (by omega)
    refine ⟨zuA a 86 (nI 4) (nI (σ 4 - 1)), ?_, hR.set (by omega), fun k hk => zuA_nk hk⟩
    simp only [q148_0, q148_1, q148_4, q148_5, q148_6, q148_9, q148_11, q148_12, q148_13, q148_16, q148_17, q148_18, q148_19, q148_20, q148_21, q148_22, q148_23, q148_26, q148_27, q148_28, ix, e4, c1, es, zuA_eq, zCall_some, Option.toList, List.cons_append, List.nil_append, zb_0, zb_1, zem, z01, z11, nI_add, ↓reduceIte, not_true_eq_false, not_false_eq_true, n0T, n1F, n11T, true_or, or_true, false_or]
theorem y_tradeOf {sc : Int32 × (Int32 → Int32)} {f : zF} {a : zA} {j : zJ} {d : Nat} {σ : Nat → Nat} {v w : Int32} (hR : MR σ a) (h4 : σ 4 ≤ 12) : cf sc (d + 2) 149 [.ref 85, .int v, .int w] f a j = some (some (.int (toS σ v w)), f, a, j) := by
  have ix : zIx 21 86 (nI 4) := ix86 (by omega)
  have e4 := hR 4 (by omega)
  rw [en149]
  unfold toS
  by_cases hv : zHas v (σ 4)
  · rw [if_pos hv]
    by_cases hw : zBtw w 0 2
    · obtain ⟨r, hr, rfl⟩ := zHas_of (by omega) hv
      obtain ⟨q, q1, q2, rfl⟩ := zBtw_of (by omega) (by omega) hw
      have ec : (nI r).toNatClampNeg = r := nI_clamp (by omega)
      rw [ec]
      have i40 : zIx 21 86 (nI (40 + r)) := ix86 (by omega)
      have i52 : zIx 21 86 (nI (52 + r)) := ix86 (by omega)
      have i64 : zIx 21 86 (nI (64 + r)) := ix86 (by omega)
      have e40 := hR (40 + r) (by omega)
      have e52 := hR (52 + r) (by omega)
      have e64 := hR (64 + r) (by omega)
      rcases (show q = 0 ∨ q = 1 ∨ q = 2 by omega) with rfl | rfl | rfl
      · rw [if_pos rfl]
        simp only [q149_0, q149_1, q149_2, q149_3, q149_4, q149_7, q149_8, q149_9, q149_10, q149_11, q149_12, q149_15, q149_18, q149_19, q149_20, q149_21, q149_24, q149_27, q149_30, q149_31, q149_32, q149_33, q149_36, q149_37, q149_40, q149_42, q149_45, q149_46, q149_47, q149_50, q149_52, q149_55, q149_57, q149_58, q149_59, q149_60, ix, e4, inHas (show σ 4 ≤ 1000 by omega), in02, eq_true hv, eq_true hw, i40, e40, zCall_some, Option.toList, List.cons_append, List.nil_append, zb_0, zb_1, zem, z01, z11, nI_add, ↓reduceIte, not_true_eq_false, not_false_eq_true, n0T, n1F, n11T, true_or, or_true, false_or]
      · rw [if_neg ne1_0, if_pos rfl]
        simp only [q149_0, q149_1, q149_2, q149_3, q149_4, q149_7, q149_8, q149_9, q149_10, q149_11, q149_12, q149_15, q149_18, q149_19, q149_20, q149_21, q149_24, q149_27, q149_30, q149_31, q149_32, q149_33, q149_36, q149_37, q149_40, q149_42, q149_45, q149_46, q149_47, q149_50, q149_52, q149_55, q149_57, q149_58, q149_59, q149_60, ix, e4, inHas (show σ 4 ≤ 1000 by omega), in02, eq_true hv, eq_true hw, i52, e52, zCall_some, Option.toList, List.cons_append, List.nil_append, zb_0, zb_1, zem, z01, z11, nI_add, ↓reduceIte, not_true_eq_false, not_false_eq_true, n0T, n1F, n11T, true_or, or_true, false_or]
      · rw [if_neg ne2_0, if_neg ne2_1, if_pos rfl]
        have n20 : ¬ nI 2 = 0 := by decide
        simp only [q149_0, q149_1, q149_2, q149_3, q149_4, q149_7, q149_8, q149_9, q149_10, q149_11, q149_12, q149_15, q149_18, q149_19, q149_20, q149_21, q149_24, q149_27, q149_30, q149_31, q149_32, q149_33, q149_36, q149_37, q149_40, q149_42, q149_45, q149_46, q149_47, q149_50, q149_52, q149_55, q149_57, q149_58, q149_59, q149_60, ix, e4, inHas (show σ 4 ≤ 1000 by omega), in02, eq_true hv, eq_true hw, n20, ne2_1, i64, e64, zCall_some, Option.toList, List.cons_append, List.nil_append, zb_0, zb_1, zem, z01, z11, nI_add, ↓reduceIte, not_true_eq_false, not_false_eq_true, n0T, n1F, n11T, true_or, or_true, false_or]
    · have n0' := zBtw_no (by omega) hw (q := 0) (by omega)
      have n1' := zBtw_no (by omega) hw (q := 1) (by omega)
      have n2' := zBtw_no (by omega) hw (q := 2) (by omega)
      rw [if_neg n0', if_neg n1', if_neg n2']
      simp only [q149_0, q149_1, q149_2, q149_3, q149_4, q149_7, q149_8, q149_9, q149_10, q149_11, q149_12, q149_15, q149_18, q149_19, q149_20, q149_21, q149_24, q149_27, q149_30, q149_31, q149_32, q149_33, q149_36, q149_37, q149_40, q149_42, q149_45, q149_46, q149_47, q149_50, q149_52, q149_55, q149_57, q149_58, q149_59, q149_60, ix, e4, inHas (show σ 4 ≤ 1000 by omega), in02, eq_true hv, eq_false hw, zCall_some, Option.toList, List.cons_append, List.nil_append, zb_0, zb_1, zem, z01, z11, nI_add, ↓reduceIte, not_true_eq_false, not_false_eq_true, n0T, n1F, n11T, true_or, or_true, false_or]
  · rw [if_neg hv]
    simp only [q149_0, q149_1, q149_2, q149_3, q149_4, q149_7, q149_8, q149_9, q149_10, q149_11, q149_12, q149_15, q149_18, q149_19, q149_20, q149_21, q149_24, q149_27, q149_30, q149_31, q149_32, q149_33, q149_36, q149_37, q149_40, q149_42, q149_45, q149_46, q149_47, q149_50, q149_52, q149_55, q149_57, q149_58, q149_59, q149_60, ix, e4, inHas (show σ 4 ≤ 1000 by omega), eq_false hv, zCall_some, Option.toList, List.cons_append, List.nil_append, zb_0, zb_1, zem, z01, z11, nI_add, ↓reduceIte, not_true_eq_false, not_false_eq_true, n0T, n1F, n11T, true_or, or_true, false_or]
theorem y_chain {sc : Int32 × (Int32 → Int32)} {f : zF} {a : zA} {j : zJ} {d : Nat} {σ : Nat → Nat} {v : Int32} (hR : MR σ a) (h8 : σ 0 ≤ 8) (hT : TrOK σ (σ 3)) : cf sc (d + 3) 150 [.ref 85, .int v] f a j = some (some (.int (chS σ v)), f, a, j) := by
  obtain ⟨h12, hT⟩ := hT
  have ix : zIx 21 86 (nI 4) := ix86 (by omega)
  have e4 := hR 4 (by omega)
  have hF := m_isField (sc := sc) (d := d) (f := f) (a := a) (j := j) (v := v) hR h8
  rw [en150]
  unfold chS
  by_cases hv : zHas v (σ 0)
  · rw [if_pos hv]
    obtain ⟨g, hg, rfl⟩ := zHas_of (by omega) hv
    rw [nI_clamp (n := g) (by omega)]
    have key := zLoopP (n := σ 4) (g := fun s : (Nat × Value) => rn sc (cf sc (d + 2)) 150 14 [.ref 85, .int (nI g), .int (chB σ g s.1), .int (nI s.1), s.2] [] f a j) (P := fun i s => s.1 = i) (by
      intro i s hi hP
      obtain ⟨i', v9⟩ := s
      have hP : i' = i := hP
      subst hP
      have c1 : ¬ nI (σ 4) ≤ nI i' := nI_ge hi (by omega)
      have i40 : zIx 21 86 (nI (40 + i')) := ix86 (by omega)
      have i52 : zIx 21 86 (nI (52 + i')) := ix86 (by omega)
      have e40 := hR (40 + i') (by omega)
      have e52 := hR (52 + i') (by omega)
      have ht := hT i' hi
      have q1 : (nI (σ (40 + i')) = nI g) = (σ (40 + i') = g) := propext (nI_eq (by omega) (by omega))
      have hb : (chB σ g i' >>> (nI (σ (40 + i')) &&& 31) &&& nI 1 = nI 1) = (bt (chB σ g i') (σ (40 + i')) = true) := propext (bit_q (by omega))
      refine ⟨(i' + 1, .int (nI (σ (40 + i')))), rfl, ?_⟩
      show _ = rn sc (cf sc (d + 2)) 150 14 [.ref 85, .int (nI g), .int (if σ (40 + i') = g ∨ bt (chB σ g i') (σ (40 + i')) = true then chB σ g i' ||| (nI 1 <<< (nI (σ (52 + i')) &&& 31)) else chB σ g i'), .int (nI (i' + 1)), .int (nI (σ (40 + i')))] [] f a j
      dsimp only
      rw [q150_14]
      by_cases w1 : σ (40 + i') = g
      · rw [if_pos (Or.inl w1)]
        simp only [q150_0, q150_1, q150_2, q150_5, q150_8, q150_9, q150_10, q150_11, q150_12, q150_13, q150_15, q150_16, q150_19, q150_20, q150_21, q150_24, q150_25, q150_28, q150_30, q150_31, q150_32, q150_33, q150_35, q150_37, q150_38, q150_41, q150_42, q150_44, q150_45, q150_46, q150_47, q150_48, q150_51, q150_52, q150_53, q150_54, q150_57, q150_59, q150_60, q150_61, q150_62, q150_63, q150_64, q150_65, q150_68, q150_71, q150_72, ix, e4, c1, i40, i52, e40, e52, q1, eq_true w1, zCall_some, Option.toList, List.cons_append, List.nil_append, zb_0, zb_1, zem, z01, z11, nI_add, ↓reduceIte, not_true_eq_false, not_false_eq_true, n0T, n1F, n11T, true_or, or_true, false_or]
      · by_cases w2 : bt (chB σ g i') (σ (40 + i')) = true
        · rw [if_pos (Or.inr w2)]
          simp only [q150_0, q150_1, q150_2, q150_5, q150_8, q150_9, q150_10, q150_11, q150_12, q150_13, q150_15, q150_16, q150_19, q150_20, q150_21, q150_24, q150_25, q150_28, q150_30, q150_31, q150_32, q150_33, q150_35, q150_37, q150_38, q150_41, q150_42, q150_44, q150_45, q150_46, q150_47, q150_48, q150_51, q150_52, q150_53, q150_54, q150_57, q150_59, q150_60, q150_61, q150_62, q150_63, q150_64, q150_65, q150_68, q150_71, q150_72, ix, e4, c1, i40, i52, e40, e52, q1, eq_false w1, hb, eq_true w2, zCall_some, Option.toList, List.cons_append, List.nil_append, zb_0, zb_1, zem, z01, z11, nI_add, ↓reduceIte, not_true_eq_false, not_false_eq_true, n0T, n1F, n11T, true_or, or_true, false_or]
        · rw [if_neg (fun q => q.elim w1 w2)]
          simp only [q150_0, q150_1, q150_2, q150_5, q150_8, q150_9, q150_10, q150_11, q150_12, q150_13, q150_15, q150_16, q150_19, q150_20, q150_21, q150_24, q150_25, q150_28, q150_30, q150_31, q150_32, q150_33, q150_35, q150_37, q150_38, q150_41, q150_42, q150_44, q150_45, q150_46, q150_47, q150_48, q150_51, q150_52, q150_53, q150_54, q150_57, q150_59, q150_60, q150_61, q150_62, q150_63, q150_64, q150_65, q150_68, q150_71, q150_72, ix, e4, c1, i40, i52, e40, e52, q1, eq_false w1, hb, eq_false w2, zCall_some, Option.toList, List.cons_append, List.nil_append, zb_0, zb_1, zem, z01, z11, nI_add, ↓reduceIte, not_true_eq_false, not_false_eq_true, n0T, n1F, n11T, true_or, or_true, false_or]) (0, .null) rfl
    obtain ⟨⟨i, v9⟩, hi, e⟩ := key
    have hi : i = σ 4 := hi
    subst hi
    have c1 : nI (σ 4) ≤ nI (σ 4) := nI_le (Nat.le_refl _) (by omega)
    simp only [q150_0, q150_1, q150_2, q150_5, q150_8, q150_9, q150_10, q150_11, q150_12, q150_13, q150_15, q150_16, q150_19, q150_20, q150_21, q150_24, q150_25, q150_28, q150_30, q150_31, q150_32, q150_33, q150_35, q150_37, q150_38, q150_41, q150_42, q150_44, q150_45, q150_46, q150_47, q150_48, q150_51, q150_52, q150_53, q150_54, q150_57, q150_59, q150_60, q150_61, q150_62, q150_63, q150_64, q150_65, q150_68, q150_71, q150_72, hF, eq_true hv, zCall_some, Option.toList, List.cons_append, List.nil_append, zb_0, zb_1, zem, z01, z11, nI_add, ↓reduceIte, not_true_eq_false, not_false_eq_true, n0T, n1F, n11T, true_or, or_true, false_or]
    refine Eq.trans (show _ = _ from e) ?_
    dsimp only
    simp only [q150_14, q150_15, q150_16, q150_19, q150_20, q150_21, q150_71, q150_72, ix, e4, c1, zCall_some, Option.toList, List.cons_append, List.nil_append, zb_0, zb_1, zem, z01, z11, nI_add, ↓reduceIte, not_true_eq_false, not_false_eq_true, n0T, n1F, n11T, true_or, or_true, false_or]
  · rw [if_neg hv]
    simp only [q150_0, q150_1, q150_2, q150_5, q150_8, q150_9, q150_10, q150_11, q150_12, q150_13, q150_15, q150_16, q150_19, q150_20, q150_21, q150_24, q150_25, q150_28, q150_30, q150_31, q150_32, q150_33, q150_35, q150_37, q150_38, q150_41, q150_42, q150_44, q150_45, q150_46, q150_47, q150_48, q150_51, q150_52, q150_53, q150_54, q150_57, q150_59, q150_60, q150_61, q150_62, q150_63, q150_64, q150_65, q150_68, q150_71, q150_72, hF, eq_false hv, zCall_some, Option.toList, List.cons_append, List.nil_append, zb_0, zb_1, zem, z01, z11, nI_add, ↓reduceIte, not_true_eq_false, not_false_eq_true, n0T, n1F, n11T, true_or, or_true, false_or]
/-- a row more -/
theorem MR.push {σ : Nat → Nat} {a : zA} {cnt p q x y : Nat} (h : MR σ a) (hc : cnt < 140) (hp : p + σ cnt < 140) (hq : q + σ cnt < 140) : MR (rwU cnt p q σ x y) (zuA (zuA (zuA a 86 (nI (p + σ cnt)) (nI x)) 86 (nI (q + σ cnt)) (nI y)) 86 (nI cnt) (nI (σ cnt + 1))) := ((h.set hp).set hq).set hc
theorem y_see {sc : Int32 × (Int32 → Int32)} {f : zF} {a : zA} {j : zJ} {d : Nat} {σ : Nat → Nat} {v h : Int32} (hR : MR σ a) (h8 : σ 0 ≤ 8) (hc : σ 5 ≤ 5) : ∃ a' : zA, cf sc (d + 3) 155 [.ref 85, .int v, .int h] f a j = some (some (.int (tlS 5 76 81 5 σ v h).1), f, a', j) ∧ MR (tlS 5 76 81 5 σ v h).2 a' ∧ ∀ k, k ≠ 86 → a' k = a k := by
  have ix : zIx 21 86 (nI 5) := ix86 (by omega)
  have e5 := hR 5 (by omega)
  have hF := m_isField (sc := sc) (d := d) (f := f) (a := a) (j := j) (v := v) hR h8
  rw [en155]
  unfold tlS
  by_cases hm : v = -1
  · rw [if_pos hm]
    refine ⟨zuA a 86 (nI 5) (nI 0), ?_, hR.set (by omega), fun k hk => zuA_nk hk⟩
    simp only [q155_0, q155_1, q155_2, q155_5, q155_6, q155_9, q155_10, q155_11, q155_12, q155_13, q155_14, q155_15, q155_16, q155_19, q155_22, q155_23, q155_24, q155_25, q155_26, q155_27, q155_30, q155_33, q155_36, q155_38, q155_39, q155_40, q155_43, q155_44, q155_45, q155_46, q155_49, q155_51, q155_52, q155_53, q155_56, q155_58, q155_59, q155_62, q155_63, q155_64, q155_65, q155_66, q155_67, q155_68, q155_71, q155_73, q155_74, q155_77, q155_78, q155_79, q155_80, q155_81, q155_82, q155_83, q155_86, q155_87, q155_88, q155_89, q155_90, q155_91, q155_92, q155_93, q155_96, q155_97, q155_98, eq_true hm, ix, zCall_some, Option.toList, List.cons_append, List.nil_append, zb_0, zb_1, zem, z01, z11, nI_add, ↓reduceIte, not_true_eq_false, not_false_eq_true, n0T, n1F, n11T, true_or, or_true, false_or]
  · rw [if_neg hm]
    by_cases hv : zHas v (σ 0)
    · rw [if_pos hv]
      by_cases hh : zBtw h 0 96
      · rw [if_pos hh]
        have q5 : (nI (σ 5) = nI 5) = (σ 5 = 5) := propext (nI_eq (by omega) (by omega))
        by_cases hf : σ 5 < 5
        · rw [if_pos hf]
          obtain ⟨g, hg, rfl⟩ := zHas_of (by omega) hv
          obtain ⟨m, m1, m2, rfl⟩ := zBtw_of (by omega) (by omega) hh
          rw [nI_clamp (n := g) (by omega), nI_clamp (n := m) (by omega)]
          have n5 : ¬ σ 5 = 5 := by omega
          have i1 : zIx 21 86 (nI (76 + σ 5)) := ix86 (by omega)
          have i2 : zIx 21 86 (nI (81 + σ 5)) := ix86 (by omega)
          have k1 : ¬ nI 5 = nI (76 + σ 5) := nI_ne (by omega) (by omega) (by omega)
          have k2 : ¬ nI 5 = nI (81 + σ 5) := nI_ne (by omega) (by omega) (by omega)
          have g1 : ∀ x : Int32, zuA a 86 (nI (76 + σ 5)) x 86 (nI 5) = nI (σ 5) := fun x => by rw [zuA_ni k1]; exact e5
          have g2 : ∀ x y : Int32, zuA (zuA a 86 (nI (76 + σ 5)) x) 86 (nI (81 + σ 5)) y 86 (nI 5) = nI (σ 5) := fun x y => by rw [zuA_ni k2]; exact g1 x
          refine ⟨_, ?_, hR.push (x := g) (y := m) (cnt := 5) (p := 76) (q := 81) (by omega) (by omega) (by omega), fun k hk => by rw [zuA_nk hk, zuA_nk hk, zuA_nk hk]⟩
          simp only [q155_0, q155_1, q155_2, q155_5, q155_6, q155_9, q155_10, q155_11, q155_12, q155_13, q155_14, q155_15, q155_16, q155_19, q155_22, q155_23, q155_24, q155_25, q155_26, q155_27, q155_30, q155_33, q155_36, q155_38, q155_39, q155_40, q155_43, q155_44, q155_45, q155_46, q155_49, q155_51, q155_52, q155_53, q155_56, q155_58, q155_59, q155_62, q155_63, q155_64, q155_65, q155_66, q155_67, q155_68, q155_71, q155_73, q155_74, q155_77, q155_78, q155_79, q155_80, q155_81, q155_82, q155_83, q155_86, q155_87, q155_88, q155_89, q155_90, q155_91, q155_92, q155_93, q155_96, q155_97, q155_98, hm, hF, in096, eq_true hv, eq_true hh, ix, e5, q5, n5, i1, i2, g1, g2, zuA_eq, zCall_some, Option.toList, List.cons_append, List.nil_append, zb_0, zb_1, zem, z01, z11, nI_add, ↓reduceIte, not_true_eq_false, not_false_eq_true, n0T, n1F, n11T, true_or, or_true, false_or]
        · rw [if_neg hf]
          have n5 : σ 5 = 5 := by omega
          refine ⟨a, ?_, hR, fun _ _ => rfl⟩
          simp only [q155_0, q155_1, q155_2, q155_5, q155_6, q155_9, q155_10, q155_11, q155_12, q155_13, q155_14, q155_15, q155_16, q155_19, q155_22, q155_23, q155_24, q155_25, q155_26, q155_27, q155_30, q155_33, q155_36, q155_38, q155_39, q155_40, q155_43, q155_44, q155_45, q155_46, q155_49, q155_51, q155_52, q155_53, q155_56, q155_58, q155_59, q155_62, q155_63, q155_64, q155_65, q155_66, q155_67, q155_68, q155_71, q155_73, q155_74, q155_77, q155_78, q155_79, q155_80, q155_81, q155_82, q155_83, q155_86, q155_87, q155_88, q155_89, q155_90, q155_91, q155_92, q155_93, q155_96, q155_97, q155_98, hm, hF, in096, eq_true hv, eq_true hh, ix, e5, q5, n5, zCall_some, Option.toList, List.cons_append, List.nil_append, zb_0, zb_1, zem, z01, z11, nI_add, ↓reduceIte, not_true_eq_false, not_false_eq_true, n0T, n1F, n11T, true_or, or_true, false_or]
      · rw [if_neg hh]
        refine ⟨a, ?_, hR, fun _ _ => rfl⟩
        simp only [q155_0, q155_1, q155_2, q155_5, q155_6, q155_9, q155_10, q155_11, q155_12, q155_13, q155_14, q155_15, q155_16, q155_19, q155_22, q155_23, q155_24, q155_25, q155_26, q155_27, q155_30, q155_33, q155_36, q155_38, q155_39, q155_40, q155_43, q155_44, q155_45, q155_46, q155_49, q155_51, q155_52, q155_53, q155_56, q155_58, q155_59, q155_62, q155_63, q155_64, q155_65, q155_66, q155_67, q155_68, q155_71, q155_73, q155_74, q155_77, q155_78, q155_79, q155_80, q155_81, q155_82, q155_83, q155_86, q155_87, q155_88, q155_89, q155_90, q155_91, q155_92, q155_93, q155_96, q155_97, q155_98, hm, hF, in096, eq_true hv, eq_false hh, zCall_some, Option.toList, List.cons_append, List.nil_append, zb_0, zb_1, zem, z01, z11, nI_add, ↓reduceIte, not_true_eq_false, not_false_eq_true, n0T, n1F, n11T, true_or, or_true, false_or]
    · rw [if_neg hv]
      refine ⟨a, ?_, hR, fun _ _ => rfl⟩
      simp only [q155_0, q155_1, q155_2, q155_5, q155_6, q155_9, q155_10, q155_11, q155_12, q155_13, q155_14, q155_15, q155_16, q155_19, q155_22, q155_23, q155_24, q155_25, q155_26, q155_27, q155_30, q155_33, q155_36, q155_38, q155_39, q155_40, q155_43, q155_44, q155_45, q155_46, q155_49, q155_51, q155_52, q155_53, q155_56, q155_58, q155_59, q155_62, q155_63, q155_64, q155_65, q155_66, q155_67, q155_68, q155_71, q155_73, q155_74, q155_77, q155_78, q155_79, q155_80, q155_81, q155_82, q155_83, q155_86, q155_87, q155_88, q155_89, q155_90, q155_91, q155_92, q155_93, q155_96, q155_97, q155_98, hm, hF, eq_false hv, zCall_some, Option.toList, List.cons_append, List.nil_append, zb_0, zb_1, zem, z01, z11, nI_add, ↓reduceIte, not_true_eq_false, not_false_eq_true, n0T, n1F, n11T, true_or, or_true, false_or]
theorem y_book {sc : Int32 × (Int32 → Int32)} {f : zF} {a : zA} {j : zJ} {d : Nat} {σ : Nat → Nat} {v h : Int32} (hR : MR σ a) (h8 : σ 0 ≤ 8) (hc : σ 7 ≤ 8) : ∃ a' : zA, cf sc (d + 3) 164 [.ref 85, .int v, .int h] f a j = some (some (.int (tlS 7 102 110 8 σ v h).1), f, a', j) ∧ MR (tlS 7 102 110 8 σ v h).2 a' ∧ ∀ k, k ≠ 86 → a' k = a k := by
  have ix : zIx 21 86 (nI 7) := ix86 (by omega)
  have e5 := hR 7 (by omega)
  have hF := m_isField (sc := sc) (d := d) (f := f) (a := a) (j := j) (v := v) hR h8
  rw [en164]
  unfold tlS
  by_cases hm : v = -1
  · rw [if_pos hm]
    refine ⟨zuA a 86 (nI 7) (nI 0), ?_, hR.set (by omega), fun k hk => zuA_nk hk⟩
    simp only [q164_0, q164_1, q164_2, q164_5, q164_6, q164_9, q164_11, q164_12, q164_13, q164_14, q164_15, q164_16, q164_17, q164_20, q164_23, q164_24, q164_25, q164_26, q164_27, q164_28, q164_31, q164_34, q164_37, q164_39, q164_40, q164_41, q164_44, q164_46, q164_47, q164_49, q164_52, q164_54, q164_55, q164_56, q164_59, q164_61, q164_62, q164_65, q164_67, q164_68, q164_69, q164_70, q164_71, q164_72, q164_75, q164_77, q164_78, q164_81, q164_83, q164_84, q164_85, q164_86, q164_87, q164_88, q164_91, q164_93, q164_94, q164_95, q164_96, q164_97, q164_98, q164_99, q164_102, q164_104, q164_105, eq_true hm, ix, zCall_some, Option.toList, List.cons_append, List.nil_append, zb_0, zb_1, zem, z01, z11, nI_add, ↓reduceIte, not_true_eq_false, not_false_eq_true, n0T, n1F, n11T, true_or, or_true, false_or]
  · rw [if_neg hm]
    by_cases hv : zHas v (σ 0)
    · rw [if_pos hv]
      by_cases hh : zBtw h 0 96
      · rw [if_pos hh]
        have q5 : (nI (σ 7) = nI 8) = (σ 7 = 8) := propext (nI_eq (by omega) (by omega))
        by_cases hf : σ 7 < 8
        · rw [if_pos hf]
          obtain ⟨g, hg, rfl⟩ := zHas_of (by omega) hv
          obtain ⟨m, m1, m2, rfl⟩ := zBtw_of (by omega) (by omega) hh
          rw [nI_clamp (n := g) (by omega), nI_clamp (n := m) (by omega)]
          have n5 : ¬ σ 7 = 8 := by omega
          have i1 : zIx 21 86 (nI (102 + σ 7)) := ix86 (by omega)
          have i2 : zIx 21 86 (nI (110 + σ 7)) := ix86 (by omega)
          have k1 : ¬ nI 7 = nI (102 + σ 7) := nI_ne (by omega) (by omega) (by omega)
          have k2 : ¬ nI 7 = nI (110 + σ 7) := nI_ne (by omega) (by omega) (by omega)
          have g1 : ∀ x : Int32, zuA a 86 (nI (102 + σ 7)) x 86 (nI 7) = nI (σ 7) := fun x => by rw [zuA_ni k1]; exact e5
          have g2 : ∀ x y : Int32, zuA (zuA a 86 (nI (102 + σ 7)) x) 86 (nI (110 + σ 7)) y 86 (nI 7) = nI (σ 7) := fun x y => by rw [zuA_ni k2]; exact g1 x
          refine ⟨_, ?_, hR.push (x := g) (y := m) (cnt := 7) (p := 102) (q := 110) (by omega) (by omega) (by omega), fun k hk => by rw [zuA_nk hk, zuA_nk hk, zuA_nk hk]⟩
          simp only [q164_0, q164_1, q164_2, q164_5, q164_6, q164_9, q164_11, q164_12, q164_13, q164_14, q164_15, q164_16, q164_17, q164_20, q164_23, q164_24, q164_25, q164_26, q164_27, q164_28, q164_31, q164_34, q164_37, q164_39, q164_40, q164_41, q164_44, q164_46, q164_47, q164_49, q164_52, q164_54, q164_55, q164_56, q164_59, q164_61, q164_62, q164_65, q164_67, q164_68, q164_69, q164_70, q164_71, q164_72, q164_75, q164_77, q164_78, q164_81, q164_83, q164_84, q164_85, q164_86, q164_87, q164_88, q164_91, q164_93, q164_94, q164_95, q164_96, q164_97, q164_98, q164_99, q164_102, q164_104, q164_105, hm, hF, in096, eq_true hv, eq_true hh, ix, e5, q5, n5, i1, i2, g1, g2, zuA_eq, zCall_some, Option.toList, List.cons_append, List.nil_append, zb_0, zb_1, zem, z01, z11, nI_add, ↓reduceIte, not_true_eq_false, not_false_eq_true, n0T, n1F, n11T, true_or, or_true, false_or]
        · rw [if_neg hf]
          have n5 : σ 7 = 8 := by omega
          refine ⟨a, ?_, hR, fun _ _ => rfl⟩
          simp only [q164_0, q164_1, q164_2, q164_5, q164_6, q164_9, q164_11, q164_12, q164_13, q164_14, q164_15, q164_16, q164_17, q164_20, q164_23, q164_24, q164_25, q164_26, q164_27, q164_28, q164_31, q164_34, q164_37, q164_39, q164_40, q164_41, q164_44, q164_46, q164_47, q164_49, q164_52, q164_54, q164_55, q164_56, q164_59, q164_61, q164_62, q164_65, q164_67, q164_68, q164_69, q164_70, q164_71, q164_72, q164_75, q164_77, q164_78, q164_81, q164_83, q164_84, q164_85, q164_86, q164_87, q164_88, q164_91, q164_93, q164_94, q164_95, q164_96, q164_97, q164_98, q164_99, q164_102, q164_104, q164_105, hm, hF, in096, eq_true hv, eq_true hh, ix, e5, q5, n5, zCall_some, Option.toList, List.cons_append, List.nil_append, zb_0, zb_1, zem, z01, z11, nI_add, ↓reduceIte, not_true_eq_false, not_false_eq_true, n0T, n1F, n11T, true_or, or_true, false_or]
      · rw [if_neg hh]
        refine ⟨a, ?_, hR, fun _ _ => rfl⟩
        simp only [q164_0, q164_1, q164_2, q164_5, q164_6, q164_9, q164_11, q164_12, q164_13, q164_14, q164_15, q164_16, q164_17, q164_20, q164_23, q164_24, q164_25, q164_26, q164_27, q164_28, q164_31, q164_34, q164_37, q164_39, q164_40, q164_41, q164_44, q164_46, q164_47, q164_49, q164_52, q164_54, q164_55, q164_56, q164_59, q164_61, q164_62, q164_65, q164_67, q164_68, q164_69, q164_70, q164_71, q164_72, q164_75, q164_77, q164_78, q164_81, q164_83, q164_84, q164_85, q164_86, q164_87, q164_88, q164_91, q164_93, q164_94, q164_95, q164_96, q164_97, q164_98, q164_99, q164_102, q164_104, q164_105, hm, hF, in096, eq_true hv, eq_false hh, zCall_some, Option.toList, List.cons_append, List.nil_append, zb_0, zb_1, zem, z01, z11, nI_add, ↓reduceIte, not_true_eq_false, not_false_eq_true, n0T, n1F, n11T, true_or, or_true, false_or]
    · rw [if_neg hv]
      refine ⟨a, ?_, hR, fun _ _ => rfl⟩
      simp only [q164_0, q164_1, q164_2, q164_5, q164_6, q164_9, q164_11, q164_12, q164_13, q164_14, q164_15, q164_16, q164_17, q164_20, q164_23, q164_24, q164_25, q164_26, q164_27, q164_28, q164_31, q164_34, q164_37, q164_39, q164_40, q164_41, q164_44, q164_46, q164_47, q164_49, q164_52, q164_54, q164_55, q164_56, q164_59, q164_61, q164_62, q164_65, q164_67, q164_68, q164_69, q164_70, q164_71, q164_72, q164_75, q164_77, q164_78, q164_81, q164_83, q164_84, q164_85, q164_86, q164_87, q164_88, q164_91, q164_93, q164_94, q164_95, q164_96, q164_97, q164_98, q164_99, q164_102, q164_104, q164_105, hm, hF, eq_false hv, zCall_some, Option.toList, List.cons_append, List.nil_append, zb_0, zb_1, zem, z01, z11, nI_add, ↓reduceIte, not_true_eq_false, not_false_eq_true, n0T, n1F, n11T, true_or, or_true, false_or]
/-- behind the tests -/
theorem pn_end {sc : Int32 × (Int32 → Int32)} {f : zF} {a : zA} {j : zJ} {d w n : Nat} {σ : Nat → Nat} (hR : MR σ a) (h6 : σ 6 ≤ 8) (hw : w < 2 ^ 31) (hn : n < 2 ^ 31) : ∃ a' : zA, rn sc (cf sc d) 161 97 [.ref 85, .int (nI w), .int (nI n)] [] f a j = some (some (.int (pnU σ (nI w) (nI n)).1), f, a', j) ∧ MR (pnU σ (nI w) (nI n)).2 a' ∧ ∀ k, k ≠ 86 → a' k = a k := by
  have ix : zIx 21 86 (nI 6) := ix86 (by omega)
  have e5 := hR 6 (by omega)
  have q5 : (nI (σ 6) = nI 8) = (σ 6 = 8) := propext (nI_eq (by omega) (by omega))
  unfold pnU
  by_cases hf : σ 6 < 8
  · rw [if_pos hf, nI_clamp hw, nI_clamp hn]
    have n5 : ¬ σ 6 = 8 := by omega
    have i1 : zIx 21 86 (nI (86 + σ 6)) := ix86 (by omega)
    have i2 : zIx 21 86 (nI (94 + σ 6)) := ix86 (by omega)
    have k1 : ¬ nI 6 = nI (86 + σ 6) := nI_ne (by omega) (by omega) (by omega)
    have k2 : ¬ nI 6 = nI (94 + σ 6) := nI_ne (by omega) (by omega) (by omega)
    have g1 : ∀ x : Int32, zuA a 86 (nI (86 + σ 6)) x 86 (nI 6) = nI (σ 6) := fun x => by rw [zuA_ni k1]; exact e5
    have g2 : ∀ x y : Int32, zuA (zuA a 86 (nI (86 + σ 6)) x) 86 (nI (94 + σ 6)) y 86 (nI 6) = nI (σ 6) := fun x y => by rw [zuA_ni k2]; exact g1 x
    refine ⟨_, ?_, hR.push (x := w) (y := n) (cnt := 6) (p := 86) (q := 94) (by omega) (by omega) (by omega), fun k hk => by rw [zuA_nk hk, zuA_nk hk, zuA_nk hk]⟩
    simp only [q161_0, q161_1, q161_2, q161_5, q161_6, q161_9, q161_11, q161_12, q161_13, q161_14, q161_15, q161_16, q161_17, q161_18, q161_21, q161_24, q161_27, q161_28, q161_31, q161_32, q161_33, q161_36, q161_39, q161_40, q161_41, q161_42, q161_43, q161_46, q161_47, q161_48, q161_49, q161_52, q161_55, q161_58, q161_59, q161_60, q161_63, q161_64, q161_65, q161_66, q161_69, q161_72, q161_75, q161_76, q161_77, q161_80, q161_81, q161_82, q161_85, q161_88, q161_91, q161_94, q161_96, q161_97, q161_98, q161_101, q161_103, q161_104, q161_106, q161_109, q161_111, q161_112, q161_113, q161_116, q161_118, q161_119, q161_122, q161_124, q161_125, q161_126, q161_127, q161_128, q161_129, q161_132, q161_134, q161_135, q161_138, q161_140, q161_141, q161_142, q161_143, q161_144, q161_145, q161_148, q161_150, q161_151, q161_152, q161_153, q161_154, q161_155, q161_156, q161_159, q161_161, q161_162, ix, e5, q5, n5, i1, i2, g1, g2, zuA_eq, zCall_some, Option.toList, List.cons_append, List.nil_append, zb_0, zb_1, zem, z01, z11, nI_add, ↓reduceIte, not_true_eq_false, not_false_eq_true, n0T, n1F, n11T, true_or, or_true, false_or]
  · rw [if_neg hf]
    have n5 : σ 6 = 8 := by omega
    refine ⟨a, ?_, hR, fun _ _ => rfl⟩
    simp only [q161_0, q161_1, q161_2, q161_5, q161_6, q161_9, q161_11, q161_12, q161_13, q161_14, q161_15, q161_16, q161_17, q161_18, q161_21, q161_24, q161_27, q161_28, q161_31, q161_32, q161_33, q161_36, q161_39, q161_40, q161_41, q161_42, q161_43, q161_46, q161_47, q161_48, q161_49, q161_52, q161_55, q161_58, q161_59, q161_60, q161_63, q161_64, q161_65, q161_66, q161_69, q161_72, q161_75, q161_76, q161_77, q161_80, q161_81, q161_82, q161_85, q161_88, q161_91, q161_94, q161_96, q161_97, q161_98, q161_101, q161_103, q161_104, q161_106, q161_109, q161_111, q161_112, q161_113, q161_116, q161_118, q161_119, q161_122, q161_124, q161_125, q161_126, q161_127, q161_128, q161_129, q161_132, q161_134, q161_135, q161_138, q161_140, q161_141, q161_142, q161_143, q161_144, q161_145, q161_148, q161_150, q161_151, q161_152, q161_153, q161_154, q161_155, q161_156, q161_159, q161_161, q161_162, ix, e5, q5, n5, zCall_some, Option.toList, List.cons_append, List.nil_append, zb_0, zb_1, zem, z01, z11, nI_add, ↓reduceIte, not_true_eq_false, not_false_eq_true, n0T, n1F, n11T, true_or, or_true, false_or]
theorem y_plan {sc : Int32 × (Int32 → Int32)} {f : zF} {a : zA} {j : zJ} {d : Nat} {σ : Nat → Nat} {w n : Int32} (hR : MR σ a) (h8 : σ 0 ≤ 8) (h6 : σ 6 ≤ 8) : ∃ a' : zA, cf sc (d + 3) 161 [.ref 85, .int w, .int n] f a j = some (some (.int (pnS σ w n).1), f, a', j) ∧ MR (pnS σ w n).2 a' ∧ ∀ k, k ≠ 86 → a' k = a k := by
  have ix : zIx 21 86 (nI 6) := ix86 (by omega)
  have hF := m_isField (sc := sc) (d := d) (f := f) (a := a) (j := j) (v := n) hR h8
  have n20 : ¬ nI 2 = 0 := by decide
  have n30 : ¬ nI 3 = 0 := by decide
  have m1 : ∀ q, q ≤ 3 → ¬ nI q = -1 := by decide
  rw [en161]
  unfold pnS
  by_cases hm : w = -1
  · rw [if_pos hm]
    refine ⟨zuA a 86 (nI 6) (nI 0), ?_, hR.set (by omega), fun k hk => zuA_nk hk⟩
    simp only [q161_0, q161_1, q161_2, q161_5, q161_6, q161_9, q161_11, q161_12, q161_13, q161_14, q161_15, q161_16, q161_17, q161_18, q161_21, q161_24, q161_27, q161_28, q161_31, q161_32, q161_33, q161_36, q161_39, q161_40, q161_41, q161_42, q161_43, q161_46, q161_47, q161_48, q161_49, q161_52, q161_55, q161_58, q161_59, q161_60, q161_63, q161_64, q161_65, q161_66, q161_69, q161_72, q161_75, q161_76, q161_77, q161_80, q161_81, q161_82, q161_85, q161_88, q161_91, q161_94, q161_96, q161_97, q161_98, q161_101, q161_103, q161_104, q161_106, q161_109, q161_111, q161_112, q161_113, q161_116, q161_118, q161_119, q161_122, q161_124, q161_125, q161_126, q161_127, q161_128, q161_129, q161_132, q161_134, q161_135, q161_138, q161_140, q161_141, q161_142, q161_143, q161_144, q161_145, q161_148, q161_150, q161_151, q161_152, q161_153, q161_154, q161_155, q161_156, q161_159, q161_161, q161_162, eq_true hm, ix, zCall_some, Option.toList, List.cons_append, List.nil_append, zb_0, zb_1, zem, z01, z11, nI_add, ↓reduceIte, not_true_eq_false, not_false_eq_true, n0T, n1F, n11T, true_or, or_true, false_or]
  · rw [if_neg hm]
    by_cases hw : zBtw w 0 3
    · rw [if_pos hw]
      obtain ⟨x, x1, x2, rfl⟩ := zBtw_of (by omega) (by omega) hw
      rcases (show x = 0 ∨ x = 1 ∨ x = 2 ∨ x = 3 by omega) with rfl | rfl | rfl | rfl
      · rw [if_pos rfl]
        by_cases hv : zHas n (σ 0)
        · rw [if_pos hv]
          obtain ⟨g, hg, rfl⟩ := zHas_of (by omega) hv
          obtain ⟨a', r1, r2⟩ := pn_end (sc := sc) (d := d + 2) (f := f) (j := j) (w := 0) (n := g) hR h6 (by omega) (by omega)
          refine ⟨a', ?_, r2⟩
          rw [← r1]
          simp only [q161_0, q161_1, q161_2, q161_5, q161_6, q161_9, q161_11, q161_12, q161_13, q161_14, q161_15, q161_16, q161_17, q161_18, q161_21, q161_24, q161_27, q161_28, q161_31, q161_32, q161_33, q161_36, q161_39, q161_40, q161_41, q161_42, q161_43, q161_46, q161_47, q161_48, q161_49, q161_52, q161_55, q161_58, q161_59, q161_60, q161_63, q161_64, q161_65, q161_66, q161_69, q161_72, q161_75, q161_76, q161_77, q161_80, q161_81, q161_82, q161_85, q161_88, q161_91, q161_94, q161_96, q161_98, q161_101, q161_103, q161_104, q161_106, q161_109, q161_111, q161_112, q161_113, q161_116, q161_118, q161_119, q161_122, q161_124, q161_125, q161_126, q161_127, q161_128, q161_129, q161_132, q161_134, q161_135, q161_138, q161_140, q161_141, q161_142, q161_143, q161_144, q161_145, q161_148, q161_150, q161_151, q161_152, q161_153, q161_154, q161_155, q161_156, q161_159, q161_161, q161_162, hm, hF, in03, eq_true hw, eq_true hv, ne0_1, ne0_2, ne0_3, ne0_4, ne0_5, ne0_6, ne0_7, ne0_8, ne0_9, ne0_10, ne0_11, ne0_12, ne1_0, ne1_2, ne1_3, ne1_4, ne1_5, ne1_6, ne1_7, ne1_8, ne1_9, ne1_10, ne1_11, ne1_12, ne2_0, ne2_1, ne2_3, ne2_4, ne2_5, ne2_6, ne2_7, ne2_8, ne2_9, ne2_10, ne2_11, ne2_12, ne3_0, ne3_1, ne3_2, ne3_4, ne3_5, ne3_6, ne3_7, ne3_8, ne3_9, ne3_10, ne3_11, ne3_12, ne4_0, ne4_1, ne4_2, ne4_3, ne4_5, ne4_6, ne4_7, ne4_8, ne4_9, ne4_10, ne4_11, ne4_12, ne5_0, ne5_1, ne5_2, ne5_3, ne5_4, ne5_6, ne5_7, ne5_8, ne5_9, ne5_10, ne5_11, ne5_12, ne6_0, ne6_1, ne6_2, ne6_3, ne6_4, ne6_5, ne6_7, ne6_8, ne6_9, ne6_10, ne6_11, ne6_12, ne7_0, ne7_1, ne7_2, ne7_3, ne7_4, ne7_5, ne7_6, ne7_8, ne7_9, ne7_10, ne7_11, ne7_12, ne8_0, ne8_1, ne8_2, ne8_3, ne8_4, ne8_5, ne8_6, ne8_7, ne8_9, ne8_10, ne8_11, ne8_12, ne9_0, ne9_1, ne9_2, ne9_3, ne9_4, ne9_5, ne9_6, ne9_7, ne9_8, ne9_10, ne9_11, ne9_12, ne10_0, ne10_1, ne10_2, ne10_3, ne10_4, ne10_5, ne10_6, ne10_7, ne10_8, ne10_9, ne10_11, ne10_12, ne11_0, ne11_1, ne11_2, ne11_3, ne11_4, ne11_5, ne11_6, ne11_7, ne11_8, ne11_9, ne11_10, ne11_12, ne12_0, ne12_1, ne12_2, ne12_3, ne12_4, ne12_5, ne12_6, ne12_7, ne12_8, ne12_9, ne12_10, ne12_11, zCall_some, Option.toList, List.cons_append, List.nil_append, zb_0, zb_1, zem, z01, z11, nI_add, ↓reduceIte, not_true_eq_false, not_false_eq_true, n0T, n1F, n11T, true_or, or_true, false_or]
        · rw [if_neg hv]
          refine ⟨a, ?_, hR, fun _ _ => rfl⟩
          simp only [q161_0, q161_1, q161_2, q161_5, q161_6, q161_9, q161_11, q161_12, q161_13, q161_14, q161_15, q161_16, q161_17, q161_18, q161_21, q161_24, q161_27, q161_28, q161_31, q161_32, q161_33, q161_36, q161_39, q161_40, q161_41, q161_42, q161_43, q161_46, q161_47, q161_48, q161_49, q161_52, q161_55, q161_58, q161_59, q161_60, q161_63, q161_64, q161_65, q161_66, q161_69, q161_72, q161_75, q161_76, q161_77, q161_80, q161_81, q161_82, q161_85, q161_88, q161_91, q161_94, q161_96, q161_98, q161_101, q161_103, q161_104, q161_106, q161_109, q161_111, q161_112, q161_113, q161_116, q161_118, q161_119, q161_122, q161_124, q161_125, q161_126, q161_127, q161_128, q161_129, q161_132, q161_134, q161_135, q161_138, q161_140, q161_141, q161_142, q161_143, q161_144, q161_145, q161_148, q161_150, q161_151, q161_152, q161_153, q161_154, q161_155, q161_156, q161_159, q161_161, q161_162, hm, hF, in03, eq_true hw, eq_false hv, ne0_1, ne0_2, ne0_3, ne0_4, ne0_5, ne0_6, ne0_7, ne0_8, ne0_9, ne0_10, ne0_11, ne0_12, ne1_0, ne1_2, ne1_3, ne1_4, ne1_5, ne1_6, ne1_7, ne1_8, ne1_9, ne1_10, ne1_11, ne1_12, ne2_0, ne2_1, ne2_3, ne2_4, ne2_5, ne2_6, ne2_7, ne2_8, ne2_9, ne2_10, ne2_11, ne2_12, ne3_0, ne3_1, ne3_2, ne3_4, ne3_5, ne3_6, ne3_7, ne3_8, ne3_9, ne3_10, ne3_11, ne3_12, ne4_0, ne4_1, ne4_2, ne4_3, ne4_5, ne4_6, ne4_7, ne4_8, ne4_9, ne4_10, ne4_11, ne4_12, ne5_0, ne5_1, ne5_2, ne5_3, ne5_4, ne5_6, ne5_7, ne5_8, ne5_9, ne5_10, ne5_11, ne5_12, ne6_0, ne6_1, ne6_2, ne6_3, ne6_4, ne6_5, ne6_7, ne6_8, ne6_9, ne6_10, ne6_11, ne6_12, ne7_0, ne7_1, ne7_2, ne7_3, ne7_4, ne7_5, ne7_6, ne7_8, ne7_9, ne7_10, ne7_11, ne7_12, ne8_0, ne8_1, ne8_2, ne8_3, ne8_4, ne8_5, ne8_6, ne8_7, ne8_9, ne8_10, ne8_11, ne8_12, ne9_0, ne9_1, ne9_2, ne9_3, ne9_4, ne9_5, ne9_6, ne9_7, ne9_8, ne9_10, ne9_11, ne9_12, ne10_0, ne10_1, ne10_2, ne10_3, ne10_4, ne10_5, ne10_6, ne10_7, ne10_8, ne10_9, ne10_11, ne10_12, ne11_0, ne11_1, ne11_2, ne11_3, ne11_4, ne11_5, ne11_6, ne11_7, ne11_8, ne11_9, ne11_10, ne11_12, ne12_0, ne12_1, ne12_2, ne12_3, ne12_4, ne12_5, ne12_6, ne12_7, ne12_8, ne12_9, ne12_10, ne12_11, zCall_some, Option.toList, List.cons_append, List.nil_append, zb_0, zb_1, zem, z01, z11, nI_add, ↓reduceIte, not_true_eq_false, not_false_eq_true, n0T, n1F, n11T, true_or, or_true, false_or]
      · rw [if_neg ne1_0, if_pos rfl]
        by_cases hv : zBtw n 0 52
        · rw [if_pos hv]
          obtain ⟨g, g1, g2, rfl⟩ := zBtw_of (by omega) (by omega) hv
          obtain ⟨a', r1, r2⟩ := pn_end (sc := sc) (d := d + 2) (f := f) (j := j) (w := 1) (n := g) hR h6 (by omega) (by omega)
          refine ⟨a', ?_, r2⟩
          rw [← r1]
          simp only [q161_0, q161_1, q161_2, q161_5, q161_6, q161_9, q161_11, q161_12, q161_13, q161_14, q161_15, q161_16, q161_17, q161_18, q161_21, q161_24, q161_27, q161_28, q161_31, q161_32, q161_33, q161_36, q161_39, q161_40, q161_41, q161_42, q161_43, q161_46, q161_47, q161_48, q161_49, q161_52, q161_55, q161_58, q161_59, q161_60, q161_63, q161_64, q161_65, q161_66, q161_69, q161_72, q161_75, q161_76, q161_77, q161_80, q161_81, q161_82, q161_85, q161_88, q161_91, q161_94, q161_96, q161_98, q161_101, q161_103, q161_104, q161_106, q161_109, q161_111, q161_112, q161_113, q161_116, q161_118, q161_119, q161_122, q161_124, q161_125, q161_126, q161_127, q161_128, q161_129, q161_132, q161_134, q161_135, q161_138, q161_140, q161_141, q161_142, q161_143, q161_144, q161_145, q161_148, q161_150, q161_151, q161_152, q161_153, q161_154, q161_155, q161_156, q161_159, q161_161, q161_162, hm, in03, in052, eq_true hw, eq_true hv, ne0_1, ne0_2, ne0_3, ne0_4, ne0_5, ne0_6, ne0_7, ne0_8, ne0_9, ne0_10, ne0_11, ne0_12, ne1_0, ne1_2, ne1_3, ne1_4, ne1_5, ne1_6, ne1_7, ne1_8, ne1_9, ne1_10, ne1_11, ne1_12, ne2_0, ne2_1, ne2_3, ne2_4, ne2_5, ne2_6, ne2_7, ne2_8, ne2_9, ne2_10, ne2_11, ne2_12, ne3_0, ne3_1, ne3_2, ne3_4, ne3_5, ne3_6, ne3_7, ne3_8, ne3_9, ne3_10, ne3_11, ne3_12, ne4_0, ne4_1, ne4_2, ne4_3, ne4_5, ne4_6, ne4_7, ne4_8, ne4_9, ne4_10, ne4_11, ne4_12, ne5_0, ne5_1, ne5_2, ne5_3, ne5_4, ne5_6, ne5_7, ne5_8, ne5_9, ne5_10, ne5_11, ne5_12, ne6_0, ne6_1, ne6_2, ne6_3, ne6_4, ne6_5, ne6_7, ne6_8, ne6_9, ne6_10, ne6_11, ne6_12, ne7_0, ne7_1, ne7_2, ne7_3, ne7_4, ne7_5, ne7_6, ne7_8, ne7_9, ne7_10, ne7_11, ne7_12, ne8_0, ne8_1, ne8_2, ne8_3, ne8_4, ne8_5, ne8_6, ne8_7, ne8_9, ne8_10, ne8_11, ne8_12, ne9_0, ne9_1, ne9_2, ne9_3, ne9_4, ne9_5, ne9_6, ne9_7, ne9_8, ne9_10, ne9_11, ne9_12, ne10_0, ne10_1, ne10_2, ne10_3, ne10_4, ne10_5, ne10_6, ne10_7, ne10_8, ne10_9, ne10_11, ne10_12, ne11_0, ne11_1, ne11_2, ne11_3, ne11_4, ne11_5, ne11_6, ne11_7, ne11_8, ne11_9, ne11_10, ne11_12, ne12_0, ne12_1, ne12_2, ne12_3, ne12_4, ne12_5, ne12_6, ne12_7, ne12_8, ne12_9, ne12_10, ne12_11, zCall_some, Option.toList, List.cons_append, List.nil_append, zb_0, zb_1, zem, z01, z11, nI_add, ↓reduceIte, not_true_eq_false, not_false_eq_true, n0T, n1F, n11T, true_or, or_true, false_or]
        · rw [if_neg hv]
          refine ⟨a, ?_, hR, fun _ _ => rfl⟩
          simp only [q161_0, q161_1, q161_2, q161_5, q161_6, q161_9, q161_11, q161_12, q161_13, q161_14, q161_15, q161_16, q161_17, q161_18, q161_21, q161_24, q161_27, q161_28, q161_31, q161_32, q161_33, q161_36, q161_39, q161_40, q161_41, q161_42, q161_43, q161_46, q161_47, q161_48, q161_49, q161_52, q161_55, q161_58, q161_59, q161_60, q161_63, q161_64, q161_65, q161_66, q161_69, q161_72, q161_75, q161_76, q161_77, q161_80, q161_81, q161_82, q161_85, q161_88, q161_91, q161_94, q161_96, q161_98, q161_101, q161_103, q161_104, q161_106, q161_109, q161_111, q161_112, q161_113, q161_116, q161_118, q161_119, q161_122, q161_124, q161_125, q161_126, q161_127, q161_128, q161_129, q161_132, q161_134, q161_135, q161_138, q161_140, q161_141, q161_142, q161_143, q161_144, q161_145, q161_148, q161_150, q161_151, q161_152, q161_153, q161_154, q161_155, q161_156, q161_159, q161_161, q161_162, hm, in03, in052, eq_true hw, eq_false hv, ne0_1, ne0_2, ne0_3, ne0_4, ne0_5, ne0_6, ne0_7, ne0_8, ne0_9, ne0_10, ne0_11, ne0_12, ne1_0, ne1_2, ne1_3, ne1_4, ne1_5, ne1_6, ne1_7, ne1_8, ne1_9, ne1_10, ne1_11, ne1_12, ne2_0, ne2_1, ne2_3, ne2_4, ne2_5, ne2_6, ne2_7, ne2_8, ne2_9, ne2_10, ne2_11, ne2_12, ne3_0, ne3_1, ne3_2, ne3_4, ne3_5, ne3_6, ne3_7, ne3_8, ne3_9, ne3_10, ne3_11, ne3_12, ne4_0, ne4_1, ne4_2, ne4_3, ne4_5, ne4_6, ne4_7, ne4_8, ne4_9, ne4_10, ne4_11, ne4_12, ne5_0, ne5_1, ne5_2, ne5_3, ne5_4, ne5_6, ne5_7, ne5_8, ne5_9, ne5_10, ne5_11, ne5_12, ne6_0, ne6_1, ne6_2, ne6_3, ne6_4, ne6_5, ne6_7, ne6_8, ne6_9, ne6_10, ne6_11, ne6_12, ne7_0, ne7_1, ne7_2, ne7_3, ne7_4, ne7_5, ne7_6, ne7_8, ne7_9, ne7_10, ne7_11, ne7_12, ne8_0, ne8_1, ne8_2, ne8_3, ne8_4, ne8_5, ne8_6, ne8_7, ne8_9, ne8_10, ne8_11, ne8_12, ne9_0, ne9_1, ne9_2, ne9_3, ne9_4, ne9_5, ne9_6, ne9_7, ne9_8, ne9_10, ne9_11, ne9_12, ne10_0, ne10_1, ne10_2, ne10_3, ne10_4, ne10_5, ne10_6, ne10_7, ne10_8, ne10_9, ne10_11, ne10_12, ne11_0, ne11_1, ne11_2, ne11_3, ne11_4, ne11_5, ne11_6, ne11_7, ne11_8, ne11_9, ne11_10, ne11_12, ne12_0, ne12_1, ne12_2, ne12_3, ne12_4, ne12_5, ne12_6, ne12_7, ne12_8, ne12_9, ne12_10, ne12_11, zCall_some, Option.toList, List.cons_append, List.nil_append, zb_0, zb_1, zem, z01, z11, nI_add, ↓reduceIte, not_true_eq_false, not_false_eq_true, n0T, n1F, n11T, true_or, or_true, false_or]
      · rw [if_neg ne2_0, if_neg ne2_1, if_pos rfl]
        by_cases hv : zBtw n 0 3
        · rw [if_pos hv]
          obtain ⟨g, g1, g2, rfl⟩ := zBtw_of (by omega) (by omega) hv
          obtain ⟨a', r1, r2⟩ := pn_end (sc := sc) (d := d + 2) (f := f) (j := j) (w := 2) (n := g) hR h6 (by omega) (by omega)
          refine ⟨a', ?_, r2⟩
          rw [← r1]
          simp only [q161_0, q161_1, q161_2, q161_5, q161_6, q161_9, q161_11, q161_12, q161_13, q161_14, q161_15, q161_16, q161_17, q161_18, q161_21, q161_24, q161_27, q161_28, q161_31, q161_32, q161_33, q161_36, q161_39, q161_40, q161_41, q161_42, q161_43, q161_46, q161_47, q161_48, q161_49, q161_52, q161_55, q161_58, q161_59, q161_60, q161_63, q161_64, q161_65, q161_66, q161_69, q161_72, q161_75, q161_76, q161_77, q161_80, q161_81, q161_82, q161_85, q161_88, q161_91, q161_94, q161_96, q161_98, q161_101, q161_103, q161_104, q161_106, q161_109, q161_111, q161_112, q161_113, q161_116, q161_118, q161_119, q161_122, q161_124, q161_125, q161_126, q161_127, q161_128, q161_129, q161_132, q161_134, q161_135, q161_138, q161_140, q161_141, q161_142, q161_143, q161_144, q161_145, q161_148, q161_150, q161_151, q161_152, q161_153, q161_154, q161_155, q161_156, q161_159, q161_161, q161_162, hm, in03, eq_true hw, eq_true hv, n20, ne0_1, ne0_2, ne0_3, ne0_4, ne0_5, ne0_6, ne0_7, ne0_8, ne0_9, ne0_10, ne0_11, ne0_12, ne1_0, ne1_2, ne1_3, ne1_4, ne1_5, ne1_6, ne1_7, ne1_8, ne1_9, ne1_10, ne1_11, ne1_12, ne2_0, ne2_1, ne2_3, ne2_4, ne2_5, ne2_6, ne2_7, ne2_8, ne2_9, ne2_10, ne2_11, ne2_12, ne3_0, ne3_1, ne3_2, ne3_4, ne3_5, ne3_6, ne3_7, ne3_8, ne3_9, ne3_10, ne3_11, ne3_12, ne4_0, ne4_1, ne4_2, ne4_3, ne4_5, ne4_6, ne4_7, ne4_8, ne4_9, ne4_10, ne4_11, ne4_12, ne5_0, ne5_1, ne5_2, ne5_3, ne5_4, ne5_6, ne5_7, ne5_8, ne5_9, ne5_10, ne5_11, ne5_12, ne6_0, ne6_1, ne6_2, ne6_3, ne6_4, ne6_5, ne6_7, ne6_8, ne6_9, ne6_10, ne6_11, ne6_12, ne7_0, ne7_1, ne7_2, ne7_3, ne7_4, ne7_5, ne7_6, ne7_8, ne7_9, ne7_10, ne7_11, ne7_12, ne8_0, ne8_1, ne8_2, ne8_3, ne8_4, ne8_5, ne8_6, ne8_7, ne8_9, ne8_10, ne8_11, ne8_12, ne9_0, ne9_1, ne9_2, ne9_3, ne9_4, ne9_5, ne9_6, ne9_7, ne9_8, ne9_10, ne9_11, ne9_12, ne10_0, ne10_1, ne10_2, ne10_3, ne10_4, ne10_5, ne10_6, ne10_7, ne10_8, ne10_9, ne10_11, ne10_12, ne11_0, ne11_1, ne11_2, ne11_3, ne11_4, ne11_5, ne11_6, ne11_7, ne11_8, ne11_9, ne11_10, ne11_12, ne12_0, ne12_1, ne12_2, ne12_3, ne12_4, ne12_5, ne12_6, ne12_7, ne12_8, ne12_9, ne12_10, ne12_11, zCall_some, Option.toList, List.cons_append, List.nil_append, zb_0, zb_1, zem, z01, z11, nI_add, ↓reduceIte, not_true_eq_false, not_false_eq_true, n0T, n1F, n11T, true_or, or_true, false_or]
        · rw [if_neg hv]
          refine ⟨a, ?_, hR, fun _ _ => rfl⟩
          simp only [q161_0, q161_1, q161_2, q161_5, q161_6, q161_9, q161_11, q161_12, q161_13, q161_14, q161_15, q161_16, q161_17, q161_18, q161_21, q161_24, q161_27, q161_28, q161_31, q161_32, q161_33, q161_36, q161_39, q161_40, q161_41, q161_42, q161_43, q161_46, q161_47, q161_48, q161_49, q161_52, q161_55, q161_58, q161_59, q161_60, q161_63, q161_64, q161_65, q161_66, q161_69, q161_72, q161_75, q161_76, q161_77, q161_80, q161_81, q161_82, q161_85, q161_88, q161_91, q161_94, q161_96, q161_98, q161_101, q161_103, q161_104, q161_106, q161_109, q161_111, q161_112, q161_113, q161_116, q161_118, q161_119, q161_122, q161_124, q161_125, q161_126, q161_127, q161_128, q161_129, q161_132, q161_134, q161_135, q161_138, q161_140, q161_141, q161_142, q161_143, q161_144, q161_145, q161_148, q161_150, q161_151, q161_152, q161_153, q161_154, q161_155, q161_156, q161_159, q161_161, q161_162, hm, in03, eq_true hw, eq_false hv, n20, ne0_1, ne0_2, ne0_3, ne0_4, ne0_5, ne0_6, ne0_7, ne0_8, ne0_9, ne0_10, ne0_11, ne0_12, ne1_0, ne1_2, ne1_3, ne1_4, ne1_5, ne1_6, ne1_7, ne1_8, ne1_9, ne1_10, ne1_11, ne1_12, ne2_0, ne2_1, ne2_3, ne2_4, ne2_5, ne2_6, ne2_7, ne2_8, ne2_9, ne2_10, ne2_11, ne2_12, ne3_0, ne3_1, ne3_2, ne3_4, ne3_5, ne3_6, ne3_7, ne3_8, ne3_9, ne3_10, ne3_11, ne3_12, ne4_0, ne4_1, ne4_2, ne4_3, ne4_5, ne4_6, ne4_7, ne4_8, ne4_9, ne4_10, ne4_11, ne4_12, ne5_0, ne5_1, ne5_2, ne5_3, ne5_4, ne5_6, ne5_7, ne5_8, ne5_9, ne5_10, ne5_11, ne5_12, ne6_0, ne6_1, ne6_2, ne6_3, ne6_4, ne6_5, ne6_7, ne6_8, ne6_9, ne6_10, ne6_11, ne6_12, ne7_0, ne7_1, ne7_2, ne7_3, ne7_4, ne7_5, ne7_6, ne7_8, ne7_9, ne7_10, ne7_11, ne7_12, ne8_0, ne8_1, ne8_2, ne8_3, ne8_4, ne8_5, ne8_6, ne8_7, ne8_9, ne8_10, ne8_11, ne8_12, ne9_0, ne9_1, ne9_2, ne9_3, ne9_4, ne9_5, ne9_6, ne9_7, ne9_8, ne9_10, ne9_11, ne9_12, ne10_0, ne10_1, ne10_2, ne10_3, ne10_4, ne10_5, ne10_6, ne10_7, ne10_8, ne10_9, ne10_11, ne10_12, ne11_0, ne11_1, ne11_2, ne11_3, ne11_4, ne11_5, ne11_6, ne11_7, ne11_8, ne11_9, ne11_10, ne11_12, ne12_0, ne12_1, ne12_2, ne12_3, ne12_4, ne12_5, ne12_6, ne12_7, ne12_8, ne12_9, ne12_10, ne12_11, zCall_some, Option.toList, List.cons_append, List.nil_append, zb_0, zb_1, zem, z01, z11, nI_add, ↓reduceIte, not_true_eq_false, not_false_eq_true, n0T, n1F, n11T, true_or, or_true, false_or]
      · rw [if_neg ne3_0, if_neg ne3_1, if_neg ne3_2]
        by_cases hv : zBtw n 8 96
        · rw [if_pos hv]
          obtain ⟨g, g1, g2, rfl⟩ := zBtw_of (by omega) (by omega) hv
          obtain ⟨a', r1, r2⟩ := pn_end (sc := sc) (d := d + 2) (f := f) (j := j) (w := 3) (n := g) hR h6 (by omega) (by omega)
          refine ⟨a', ?_, r2⟩
          rw [← r1]
          simp only [q161_0, q161_1, q161_2, q161_5, q161_6, q161_9, q161_11, q161_12, q161_13, q161_14, q161_15, q161_16, q161_17, q161_18, q161_21, q161_24, q161_27, q161_28, q161_31, q161_32, q161_33, q161_36, q161_39, q161_40, q161_41, q161_42, q161_43, q161_46, q161_47, q161_48, q161_49, q161_52, q161_55, q161_58, q161_59, q161_60, q161_63, q161_64, q161_65, q161_66, q161_69, q161_72, q161_75, q161_76, q161_77, q161_80, q161_81, q161_82, q161_85, q161_88, q161_91, q161_94, q161_96, q161_98, q161_101, q161_103, q161_104, q161_106, q161_109, q161_111, q161_112, q161_113, q161_116, q161_118, q161_119, q161_122, q161_124, q161_125, q161_126, q161_127, q161_128, q161_129, q161_132, q161_134, q161_135, q161_138, q161_140, q161_141, q161_142, q161_143, q161_144, q161_145, q161_148, q161_150, q161_151, q161_152, q161_153, q161_154, q161_155, q161_156, q161_159, q161_161, q161_162, hm, in03, in896, eq_true hw, eq_true hv, n30, ne0_1, ne0_2, ne0_3, ne0_4, ne0_5, ne0_6, ne0_7, ne0_8, ne0_9, ne0_10, ne0_11, ne0_12, ne1_0, ne1_2, ne1_3, ne1_4, ne1_5, ne1_6, ne1_7, ne1_8, ne1_9, ne1_10, ne1_11, ne1_12, ne2_0, ne2_1, ne2_3, ne2_4, ne2_5, ne2_6, ne2_7, ne2_8, ne2_9, ne2_10, ne2_11, ne2_12, ne3_0, ne3_1, ne3_2, ne3_4, ne3_5, ne3_6, ne3_7, ne3_8, ne3_9, ne3_10, ne3_11, ne3_12, ne4_0, ne4_1, ne4_2, ne4_3, ne4_5, ne4_6, ne4_7, ne4_8, ne4_9, ne4_10, ne4_11, ne4_12, ne5_0, ne5_1, ne5_2, ne5_3, ne5_4, ne5_6, ne5_7, ne5_8, ne5_9, ne5_10, ne5_11, ne5_12, ne6_0, ne6_1, ne6_2, ne6_3, ne6_4, ne6_5, ne6_7, ne6_8, ne6_9, ne6_10, ne6_11, ne6_12, ne7_0, ne7_1, ne7_2, ne7_3, ne7_4, ne7_5, ne7_6, ne7_8, ne7_9, ne7_10, ne7_11, ne7_12, ne8_0, ne8_1, ne8_2, ne8_3, ne8_4, ne8_5, ne8_6, ne8_7, ne8_9, ne8_10, ne8_11, ne8_12, ne9_0, ne9_1, ne9_2, ne9_3, ne9_4, ne9_5, ne9_6, ne9_7, ne9_8, ne9_10, ne9_11, ne9_12, ne10_0, ne10_1, ne10_2, ne10_3, ne10_4, ne10_5, ne10_6, ne10_7, ne10_8, ne10_9, ne10_11, ne10_12, ne11_0, ne11_1, ne11_2, ne11_3, ne11_4, ne11_5, ne11_6, ne11_7, ne11_8, ne11_9, ne11_10, ne11_12, ne12_0, ne12_1, ne12_2, ne12_3, ne12_4, ne12_5, ne12_6, ne12_7, ne12_8, ne12_9, ne12_10, ne12_11, zCall_some, Option.toList, List.cons_append, List.nil_append, zb_0, zb_1, zem, z01, z11, nI_add, ↓reduceIte, not_true_eq_false, not_false_eq_true, n0T, n1F, n11T, true_or, or_true, false_or]
        · rw [if_neg hv]
          refine ⟨a, ?_, hR, fun _ _ => rfl⟩
          simp only [q161_0, q161_1, q161_2, q161_5, q161_6, q161_9, q161_11, q161_12, q161_13, q161_14, q161_15, q161_16, q161_17, q161_18, q161_21, q161_24, q161_27, q161_28, q161_31, q161_32, q161_33, q161_36, q161_39, q161_40, q161_41, q161_42, q161_43, q161_46, q161_47, q161_48, q161_49, q161_52, q161_55, q161_58, q161_59, q161_60, q161_63, q161_64, q161_65, q161_66, q161_69, q161_72, q161_75, q161_76, q161_77, q161_80, q161_81, q161_82, q161_85, q161_88, q161_91, q161_94, q161_96, q161_98, q161_101, q161_103, q161_104, q161_106, q161_109, q161_111, q161_112, q161_113, q161_116, q161_118, q161_119, q161_122, q161_124, q161_125, q161_126, q161_127, q161_128, q161_129, q161_132, q161_134, q161_135, q161_138, q161_140, q161_141, q161_142, q161_143, q161_144, q161_145, q161_148, q161_150, q161_151, q161_152, q161_153, q161_154, q161_155, q161_156, q161_159, q161_161, q161_162, hm, in03, in896, eq_true hw, eq_false hv, n30, ne0_1, ne0_2, ne0_3, ne0_4, ne0_5, ne0_6, ne0_7, ne0_8, ne0_9, ne0_10, ne0_11, ne0_12, ne1_0, ne1_2, ne1_3, ne1_4, ne1_5, ne1_6, ne1_7, ne1_8, ne1_9, ne1_10, ne1_11, ne1_12, ne2_0, ne2_1, ne2_3, ne2_4, ne2_5, ne2_6, ne2_7, ne2_8, ne2_9, ne2_10, ne2_11, ne2_12, ne3_0, ne3_1, ne3_2, ne3_4, ne3_5, ne3_6, ne3_7, ne3_8, ne3_9, ne3_10, ne3_11, ne3_12, ne4_0, ne4_1, ne4_2, ne4_3, ne4_5, ne4_6, ne4_7, ne4_8, ne4_9, ne4_10, ne4_11, ne4_12, ne5_0, ne5_1, ne5_2, ne5_3, ne5_4, ne5_6, ne5_7, ne5_8, ne5_9, ne5_10, ne5_11, ne5_12, ne6_0, ne6_1, ne6_2, ne6_3, ne6_4, ne6_5, ne6_7, ne6_8, ne6_9, ne6_10, ne6_11, ne6_12, ne7_0, ne7_1, ne7_2, ne7_3, ne7_4, ne7_5, ne7_6, ne7_8, ne7_9, ne7_10, ne7_11, ne7_12, ne8_0, ne8_1, ne8_2, ne8_3, ne8_4, ne8_5, ne8_6, ne8_7, ne8_9, ne8_10, ne8_11, ne8_12, ne9_0, ne9_1, ne9_2, ne9_3, ne9_4, ne9_5, ne9_6, ne9_7, ne9_8, ne9_10, ne9_11, ne9_12, ne10_0, ne10_1, ne10_2, ne10_3, ne10_4, ne10_5, ne10_6, ne10_7, ne10_8, ne10_9, ne10_11, ne10_12, ne11_0, ne11_1, ne11_2, ne11_3, ne11_4, ne11_5, ne11_6, ne11_7, ne11_8, ne11_9, ne11_10, ne11_12, ne12_0, ne12_1, ne12_2, ne12_3, ne12_4, ne12_5, ne12_6, ne12_7, ne12_8, ne12_9, ne12_10, ne12_11, zCall_some, Option.toList, List.cons_append, List.nil_append, zb_0, zb_1, zem, z01, z11, nI_add, ↓reduceIte, not_true_eq_false, not_false_eq_true, n0T, n1F, n11T, true_or, or_true, false_or]
    · rw [if_neg hw]
      refine ⟨a, ?_, hR, fun _ _ => rfl⟩
      simp only [q161_0, q161_1, q161_2, q161_5, q161_6, q161_9, q161_11, q161_12, q161_13, q161_14, q161_15, q161_16, q161_17, q161_18, q161_21, q161_24, q161_27, q161_28, q161_31, q161_32, q161_33, q161_36, q161_39, q161_40, q161_41, q161_42, q161_43, q161_46, q161_47, q161_48, q161_49, q161_52, q161_55, q161_58, q161_59, q161_60, q161_63, q161_64, q161_65, q161_66, q161_69, q161_72, q161_75, q161_76, q161_77, q161_80, q161_81, q161_82, q161_85, q161_88, q161_91, q161_94, q161_96, q161_98, q161_101, q161_103, q161_104, q161_106, q161_109, q161_111, q161_112, q161_113, q161_116, q161_118, q161_119, q161_122, q161_124, q161_125, q161_126, q161_127, q161_128, q161_129, q161_132, q161_134, q161_135, q161_138, q161_140, q161_141, q161_142, q161_143, q161_144, q161_145, q161_148, q161_150, q161_151, q161_152, q161_153, q161_154, q161_155, q161_156, q161_159, q161_161, q161_162, hm, in03, eq_false hw, zCall_some, Option.toList, List.cons_append, List.nil_append, zb_0, zb_1, zem, z01, z11, nI_add, ↓reduceIte, not_true_eq_false, not_false_eq_true, n0T, n1F, n11T, true_or, or_true, false_or]
/-- the reference's image -/
def MK (kb : Bool) (τ : Nat → Nat) (f : zF) (a : zA) : Prop := f 85 4 = nI (if kb = true then 1 else 0) ∧ (kb = true → ∀ i, i < 140 → a 87 (nI i) = nI (τ i))
theorem y_image {sc : Int32 × (Int32 → Int32)} {f : zF} {a : zA} {j : zJ} {d : Nat} {σ : Nat → Nat} (hR : MR σ a) : ∃ a' : zA, cf sc (d + 2) 167 [.ref 85] f a j = some (some (.int (nI (σ 0))), zuF f 85 4 (nI 1), a', j) ∧ MR σ a' ∧ (∀ i, i < 140 → a' 87 (nI i) = nI (σ i)) ∧ ∀ k, k ≠ 87 → a' k = a k := by
  obtain ⟨a', r1, r2, r3⟩ := m_copies (sc := sc) (d := d) (f := f) (a := a) (j := j) (q := 86) (t := 87) ⟨rfl, rfl⟩ ⟨rfl, rfl⟩ (by omega)
  have ix : zIx 21 86 (nI 0) := ix86 (by omega)
  have hR' : MR σ a' := hR.of (r3 86 (by omega))
  have e0 := hR' 0 (by omega)
  refine ⟨a', ?_, hR', fun i hi => by rw [r2 i hi]; exact hR i hi, r3⟩
  rw [en167]
  simp only [q167_0, q167_1, q167_4, q167_5, q167_8, q167_11, q167_12, q167_13, q167_16, q167_17, q167_20, q167_21, q167_22, r1, ix, e0, zCall_some, Option.toList, List.cons_append, List.nil_append, zb_0, zb_1, zem, z01, z11, nI_add, ↓reduceIte, not_true_eq_false, not_false_eq_true, n0T, n1F, n11T, true_or, or_true, false_or]
theorem y_undo {sc : Int32 × (Int32 → Int32)} {f : zF} {a : zA} {j : zJ} {d : Nat} {kb : Bool} {σ τ : Nat → Nat} (hR : MR σ a) (hK : MK kb τ f a) : ∃ a' : zA, cf sc (d + 2) 168 [.ref 85] f a j = some (some (.int (udS kb σ τ).1), f, a', j) ∧ MR (udS kb σ τ).2 a' ∧ ∀ k, k ≠ 86 → a' k = a k := by
  obtain ⟨k1, k2⟩ := hK
  rw [en168]
  unfold udS
  by_cases hb : kb = true
  · rw [if_pos hb]
    rw [if_pos hb] at k1
    obtain ⟨a', r1, r2, r3⟩ := m_copies (sc := sc) (d := d) (f := f) (a := a) (j := j) (q := 87) (t := 86) ⟨rfl, rfl⟩ ⟨rfl, rfl⟩ (by omega)
    have ix : zIx 21 86 (nI 0) := ix86 (by omega)
    have hR' : MR τ a' := fun i hi => by rw [r2 i hi]; exact k2 hb i hi
    have e0 := hR' 0 (by omega)
    refine ⟨a', ?_, hR', r3⟩
    simp only [q168_0, q168_1, q168_4, q168_7, q168_9, q168_10, q168_11, q168_14, q168_15, q168_18, q168_21, q168_22, q168_25, q168_26, q168_27, k1, r1, ix, e0, zCall_some, Option.toList, List.cons_append, List.nil_append, zb_0, zb_1, zem, z01, z11, nI_add, ↓reduceIte, not_true_eq_false, not_false_eq_true, n0T, n1F, n11T, true_or, or_true, false_or]
  · rw [if_neg hb]
    rw [if_neg hb] at k1
    refine ⟨a, ?_, hR, fun _ _ => rfl⟩
    simp only [q168_0, q168_1, q168_4, q168_7, q168_9, q168_10, q168_11, q168_14, q168_15, q168_18, q168_21, q168_22, q168_25, q168_26, q168_27, k1, zCall_some, Option.toList, List.cons_append, List.nil_append, zb_0, zb_1, zem, z01, z11, nI_add, ↓reduceIte, not_true_eq_false, not_false_eq_true, n0T, n1F, n11T, true_or, or_true, false_or]
theorem y_count {sc : Int32 × (Int32 → Int32)} {f : zF} {a : zA} {j : zJ} {d tn : Nat} {σ : Nat → Nat} {w : Int32} (hR : MR σ a) (hT : f 85 18 = nI tn) : cf sc (d + 1) 169 [.ref 85, .int w] f a j = some (some (.int (cnS σ tn w)), f, a, j) := by
  have i0 : zIx 21 86 (nI 0) := ix86 (by omega)
  have i5 : zIx 21 86 (nI 5) := ix86 (by omega)
  have i6 : zIx 21 86 (nI 6) := ix86 (by omega)
  have i7 : zIx 21 86 (nI 7) := ix86 (by omega)
  have e0 := hR 0 (by omega)
  have e5 := hR 5 (by omega)
  have e6 := hR 6 (by omega)
  have e7 := hR 7 (by omega)
  rw [en169]
  unfold cnS
  simp only [q169_0, q169_1, q169_36, q169_37, q169_40, q169_41, q169_42, q169_43, q169_44, q169_47, q169_48, q169_49, q169_50, q169_51, q169_54, q169_56, q169_57, q169_58, q169_59, q169_62, q169_64, q169_65, q169_66, q169_67, q169_70, q169_71, q169_73, i0, i5, i6, i7, e0, e5, e6, e7, hT, zCall_some, Option.toList, List.cons_append, List.nil_append, zb_0, zb_1, zem, z01, z11, nI_add, ↓reduceIte, not_true_eq_false, not_false_eq_true, n0T, n1F, n11T, true_or, or_true, false_or]
  split
  · rfl
  · split
    · rfl
    · split
      · rfl
      · split
        · rfl
        · split
          · rfl
          · rfl
/-- the reference's text -/
def MX (tx : Nat → Nat) (tn : Nat) (f : zF) (a : zA) : Prop := f 85 18 = nI tn ∧ ∀ i, i < tn → a 98 (nI i) = nI (tx i)
theorem y_feed {sc : Int32 × (Int32 → Int32)} {f : zF} {a : zA} {j : zJ} {d tn : Nat} {tx : Nat → Nat} {v : Int32} (hT : MX tx tn f a) (h100 : tn ≤ 100) : ∃ (f' : zF) (a' : zA), cf sc (d + 2) 132 [.ref 85, .int v] f a j = some (some (.int (fdS tx tn v).1), f', a', j) ∧ MX (fdS tx tn v).2.1 (fdS tx tn v).2.2 f' a' ∧ (∀ k, k ≠ 85 → f' k = f k) ∧ (∀ i, i ≠ 18 → f' 85 i = f 85 i) ∧ ∀ k, k ≠ 98 → a' k = a k := by
  obtain ⟨t1, t2⟩ := hT
  rw [en132]
  unfold fdS
  by_cases hv : zBtw v 0 127
  · rw [if_pos hv]
    have q1 : (nI tn = nI 100) = (tn = 100) := propext (nI_eq (by omega) (by omega))
    by_cases h : tn < 100
    · rw [if_pos h]
      obtain ⟨q, q1', q2, rfl⟩ := zBtw_of (by omega) (by omega) hv
      rw [nI_clamp (n := q) (by omega)]
      have n1 : ¬ tn = 100 := by omega
      have ix : zIx 21 98 (nI tn) := ix98 h
      refine ⟨zuF f 85 18 (nI (tn + 1)), zuA a 98 (nI tn) (nI q), ?_, ⟨zuF_eq, fun i hi => ?_⟩, fun k hk => zuF_nk hk, fun i hi => zuF_ni hi, fun k hk => zuA_nk hk⟩
      · simp only [q132_0, q132_1, q132_2, q132_3, q132_6, q132_9, q132_12, q132_14, q132_15, q132_16, q132_19, q132_21, q132_24, q132_26, q132_27, q132_28, q132_31, q132_32, q132_35, q132_36, q132_37, q132_38, q132_39, q132_42, q132_43, q132_44, q132_47, q132_48, q132_51, in0127, eq_true hv, t1, q1, n1, ix, zuF_eq, zCall_some, Option.toList, List.cons_append, List.nil_append, zb_0, zb_1, zem, z01, z11, nI_add, ↓reduceIte, not_true_eq_false, not_false_eq_true, n0T, n1F, n11T, true_or, or_true, false_or]
      · dsimp only at hi ⊢
        by_cases e : i = tn
        · rw [e, zup_eq, zuA_eq]
        · rw [zup_ne e, zuA_ni (nI_ne (by omega) (by omega) e)]; exact t2 i (by omega)
    · rw [if_neg h]
      have n1 : tn = 100 := by omega
      refine ⟨f, a, ?_, ⟨t1, t2⟩, fun _ _ => rfl, fun _ _ => rfl, fun _ _ => rfl⟩
      simp only [q132_0, q132_1, q132_2, q132_3, q132_6, q132_9, q132_12, q132_14, q132_15, q132_16, q132_19, q132_21, q132_24, q132_26, q132_27, q132_28, q132_31, q132_32, q132_35, q132_36, q132_37, q132_38, q132_39, q132_42, q132_43, q132_44, q132_47, q132_48, q132_51, in0127, eq_true hv, t1, q1, n1, zCall_some, Option.toList, List.cons_append, List.nil_append, zb_0, zb_1, zem, z01, z11, nI_add, ↓reduceIte, not_true_eq_false, not_false_eq_true, n0T, n1F, n11T, true_or, or_true, false_or]
  · rw [if_neg hv]
    refine ⟨f, a, ?_, ⟨t1, t2⟩, fun _ _ => rfl, fun _ _ => rfl, fun _ _ => rfl⟩
    simp only [q132_0, q132_1, q132_2, q132_3, q132_6, q132_9, q132_12, q132_14, q132_15, q132_16, q132_19, q132_21, q132_24, q132_26, q132_27, q132_28, q132_31, q132_32, q132_35, q132_36, q132_37, q132_38, q132_39, q132_42, q132_43, q132_44, q132_47, q132_48, q132_51, in0127, eq_false hv, zCall_some, Option.toList, List.cons_append, List.nil_append, zb_0, zb_1, zem, z01, z11, nI_add, ↓reduceIte, not_true_eq_false, not_false_eq_true, n0T, n1F, n11T, true_or, or_true, false_or]
