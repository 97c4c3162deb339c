/-! ===== the reference: reachOf, trades, seen, plan, book, image, count, feed ===== -/
theorem zBtw_no {w : Int32} {hi q : Nat} (hh : hi < 2 ^ 30) (h : ¬ zBtw w 0 hi) (hq : q ≤ hi) : ¬ w = nI q := fun e => h (by rw [e]; exact zBtw_nI hh (by omega) hq)
theorem y_reachOf {sc : Int32 × (Int32 → Int32)} {f : zF} {a : zA} {j : zJ} {d : Nat} {σ : Nat → Nat} {v w : Int32} (hR : MR σ a) (hV : VR σ) : cf sc (d + 2) 116 [.ref 85, .int v, .int w] f a j = some (some (.int (roS σ v w)), f, a, j) := by
  have hn := hV.1
  have ix0 : zIx 21 86 (nI 0) := ix86 (by omega)
  have e0 := hR 0 (by omega)
  rw [en116]
  unfold roS
  by_cases hv : zBtw v 0 3
  · rw [if_pos hv]
    by_cases hw : zBtw w 0 2
    · obtain ⟨r, r1, r2, rfl⟩ := zBtw_of (by omega) (by omega) hv
      obtain ⟨q, q1, q2, rfl⟩ := zBtw_of (by omega) (by omega) hw
      have ec : (nI r).toNatClampNeg = r := nI_clamp (by omega)
      have i8 : zIx 21 86 (nI (8 + r)) := ix86 (by omega)
      have i12 : zIx 21 86 (nI (12 + r)) := ix86 (by omega)
      have e8 := hR (8 + r) (by omega)
      have e12 := hR (12 + r) (by omega)
      rw [ec]
      rcases (show q = 0 ∨ q = 1 ∨ q = 2 by omega) with rfl | rfl | rfl
      · have c1 : ¬ nI 2 ≤ nI 0 := by decide
        rw [if_pos rfl]
        simp only [q116_0, q116_1, q116_2, q116_3, q116_6, q116_9, q116_12, q116_13, q116_14, q116_15, q116_18, q116_21, q116_24, q116_25, q116_26, q116_27, q116_28, q116_31, q116_32, q116_35, q116_36, q116_39, q116_41, q116_44, q116_46, q116_47, q116_48, q116_49, q116_50, q116_51, q116_52, q116_53, q116_55, q116_57, q116_58, q116_61, q116_62, q116_63, q116_66, q116_67, q116_70, q116_72, q116_74, q116_75, q116_76, q116_77, q116_80, q116_83, q116_86, q116_89, q116_90, in03, in02, eq_true hv, eq_true hw, c1, i8, e8, zCall_some, Option.toList, List.cons_append, List.nil_append, zb_0, zb_1, zem, z01, z11, nI_add, ↓reduceIte, not_true_eq_false, not_false_eq_true, n0T, n1F, n11T, true_or, or_true, false_or]
      · have c1 : ¬ nI 2 ≤ nI 1 := by decide
        rw [if_neg ne1_0, if_pos rfl]
        simp only [q116_0, q116_1, q116_2, q116_3, q116_6, q116_9, q116_12, q116_13, q116_14, q116_15, q116_18, q116_21, q116_24, q116_25, q116_26, q116_27, q116_28, q116_31, q116_32, q116_35, q116_36, q116_39, q116_41, q116_44, q116_46, q116_47, q116_48, q116_49, q116_50, q116_51, q116_52, q116_53, q116_55, q116_57, q116_58, q116_61, q116_62, q116_63, q116_66, q116_67, q116_70, q116_72, q116_74, q116_75, q116_76, q116_77, q116_80, q116_83, q116_86, q116_89, q116_90, in03, in02, eq_true hv, eq_true hw, c1, i12, e12, zCall_some, Option.toList, List.cons_append, List.nil_append, zb_0, zb_1, zem, z01, z11, nI_add, ↓reduceIte, not_true_eq_false, not_false_eq_true, n0T, n1F, n11T, true_or, or_true, false_or]
      · have c1 : nI 2 ≤ nI 2 := by decide
        rw [if_neg ne2_0, if_neg ne2_1, if_pos rfl]
        have key := zLoop (n := σ 0) (g := fun i => rn sc (cf sc (d + 1)) 116 55 [.ref 85, .int (nI r), .int (nI 2), .int (nI (ctI σ r i)), .int (nI i)] [] f a j) (by
          intro i hi
          have c2 : ¬ nI (σ 0) ≤ nI i := nI_ge hi (by omega)
          have i16 : zIx 21 86 (nI (16 + i)) := ix86 (by omega)
          have e16 := hR (16 + i) (by omega)
          have h4 := (hV.2.2.1 i hi).1
          have e1 : (nI (σ (16 + i)) = nI r) = (σ (16 + i) = r) := propext (nI_eq (by omega) (by omega))
          rw [q116_55, ctI_s]
          by_cases h : σ (16 + i) = r
          · simp only [q116_0, q116_1, q116_2, q116_3, q116_6, q116_9, q116_12, q116_13, q116_14, q116_15, q116_18, q116_21, q116_24, q116_25, q116_26, q116_27, q116_28, q116_31, q116_32, q116_35, q116_36, q116_39, q116_41, q116_44, q116_46, q116_47, q116_48, q116_49, q116_50, q116_51, q116_52, q116_53, q116_57, q116_58, q116_61, q116_62, q116_63, q116_66, q116_67, q116_70, q116_72, q116_74, q116_75, q116_76, q116_77, q116_80, q116_83, q116_86, q116_89, q116_90, ix0, e0, c2, i16, e16, e1, h, zCall_some, Option.toList, List.cons_append, List.nil_append, zb_0, zb_1, zem, z01, z11, nI_add, ↓reduceIte, not_true_eq_false, not_false_eq_true, n0T, n1F, n11T, true_or, or_true, false_or]
          · simp only [q116_0, q116_1, q116_2, q116_3, q116_6, q116_9, q116_12, q116_13, q116_14, q116_15, q116_18, q116_21, q116_24, q116_25, q116_26, q116_27, q116_28, q116_31, q116_32, q116_35, q116_36, q116_39, q116_41, q116_44, q116_46, q116_47, q116_48, q116_49, q116_50, q116_51, q116_52, q116_53, q116_57, q116_58, q116_61, q116_62, q116_63, q116_66, q116_67, q116_70, q116_72, q116_74, q116_75, q116_76, q116_77, q116_80, q116_83, q116_86, q116_89, q116_90, ix0, e0, c2, i16, e16, e1, h, Nat.add_zero, zCall_some, Option.toList, List.cons_append, List.nil_append, zb_0, zb_1, zem, z01, z11, nI_add, ↓reduceIte, not_true_eq_false, not_false_eq_true, n0T, n1F, n11T, true_or, or_true, false_or])
        have c2 : nI (σ 0) ≤ nI (σ 0) := nI_le (Nat.le_refl _) (by omega)
        simp only [q116_0, q116_1, q116_2, q116_3, q116_6, q116_9, q116_12, q116_13, q116_14, q116_15, q116_18, q116_21, q116_24, q116_25, q116_26, q116_27, q116_28, q116_31, q116_32, q116_35, q116_36, q116_39, q116_41, q116_44, q116_46, q116_47, q116_48, q116_49, q116_50, q116_51, q116_52, q116_53, q116_57, q116_58, q116_61, q116_62, q116_63, q116_66, q116_67, q116_70, q116_72, q116_74, q116_75, q116_76, q116_77, q116_80, q116_83, q116_86, q116_89, q116_90, in03, in02, eq_true hv, eq_true hw, c1, zCall_some, Option.toList, List.cons_append, List.nil_append, zb_0, zb_1, zem, z01, z11, nI_add, ↓reduceIte, not_true_eq_false, not_false_eq_true, n0T, n1F, n11T, true_or, or_true, false_or]
        refine Eq.trans (show _ = _ from key) ?_
        simp only [q116_55, q116_57, q116_58, q116_61, q116_62, q116_63, q116_89, q116_90, ix0, e0, c2, zCall_some, Option.toList, List.cons_append, List.nil_append, zb_0, zb_1, zem, z01, z11, nI_add, ↓reduceIte, not_true_eq_false, not_false_eq_true, n0T, n1F, n11T, true_or, or_true, false_or]
    · have n0' := zBtw_no (by omega) hw (q := 0) (by omega)
      have n1' := zBtw_no (by omega) hw (q := 1) (by omega)
      have n2' := zBtw_no (by omega) hw (q := 2) (by omega)
      rw [if_neg n0', if_neg n1', if_neg n2']
      simp only [q116_0, q116_1, q116_2, q116_3, q116_6, q116_9, q116_12, q116_13, q116_14, q116_15, q116_18, q116_21, q116_24, q116_25, q116_26, q116_27, q116_28, q116_31, q116_32, q116_35, q116_36, q116_39, q116_41, q116_44, q116_46, q116_47, q116_48, q116_49, q116_50, q116_51, q116_52, q116_53, q116_55, q116_57, q116_58, q116_61, q116_62, q116_63, q116_66, q116_67, q116_70, q116_72, q116_74, q116_75, q116_76, q116_77, q116_80, q116_83, q116_86, q116_89, q116_90, in03, in02, eq_true hv, eq_false hw, zCall_some, Option.toList, List.cons_append, List.nil_append, zb_0, zb_1, zem, z01, z11, nI_add, ↓reduceIte, not_true_eq_false, not_false_eq_true, n0T, n1F, n11T, true_or, or_true, false_or]
  · rw [if_neg hv]
    simp only [q116_0, q116_1, q116_2, q116_3, q116_6, q116_9, q116_12, q116_13, q116_14, q116_15, q116_18, q116_21, q116_24, q116_25, q116_26, q116_27, q116_28, q116_31, q116_32, q116_35, q116_36, q116_39, q116_41, q116_44, q116_46, q116_47, q116_48, q116_49, q116_50, q116_51, q116_52, q116_53, q116_55, q116_57, q116_58, q116_61, q116_62, q116_63, q116_66, q116_67, q116_70, q116_72, q116_74, q116_75, q116_76, q116_77, q116_80, q116_83, q116_86, q116_89, q116_90, in03, eq_false hv, zCall_some, Option.toList, List.cons_append, List.nil_append, zb_0, zb_1, zem, z01, z11, nI_add, ↓reduceIte, not_true_eq_false, not_false_eq_true, n0T, n1F, n11T, true_or, or_true, false_or]
theorem y_undoTrade {sc : Int32 × (Int32 → Int32)} {f : zF} {a : zA} {j : zJ} {d : Nat} {σ : Nat → Nat} (hR : MR σ a) (h4 : σ 4 ≤ 12) : ∃ a' : zA, cf sc (d + 1) 154 [.ref 85] f a j = some (some (.int (utS σ).1), f, a', j) ∧ MR (utS σ).2 a' ∧ ∀ k, k ≠ 86 → a' k = a k := by
  have ix : zIx 21 86 (nI 4) := ix86 (by omega)
  have e4 := hR 4 (by omega)
  rw [en154]
  unfold utS
  by_cases h : σ 4 = 0
  · rw [if_pos h]
    have c1 : nI (σ 4) = 0 := by rw [h]; rfl
    refine ⟨a, ?_, hR, fun _ _ => rfl⟩
    simp only [q154_0, q154_1, q154_4, q154_5, q154_6, q154_9, q154_11, q154_12, q154_13, q154_16, q154_17, q154_18, q154_19, q154_20, q154_21, q154_22, q154_23, q154_26, q154_27, q154_28, ix, e4, c1, zCall_some, Option.toList, List.cons_append, List.nil_append, zb_0, zb_1, zem, z01, z11, nI_add, ↓reduceIte, not_true_eq_false, not_false_eq_true, n0T, n1F, n11T, true_or, or_true, false_or]
  · rw [if_neg h]
    have c1 : ¬ nI (σ 4) = 0 := nI_ne0 (by omega) (by omega)
    have es : nI (σ 4) - nI 1 = nI (σ 4 - 1) := pk_sub (by omega)
    refine ⟨zuA a 86 (nI 4) (nI (σ 4 - 1)), ?_, hR.set (by omega), fun k hk => zuA_nk hk⟩
    simp only [q154_0, q154_1, q154_4, q154_5, q154_6, q154_9, q154_11, q154_12, q154_13, q154_16, q154_17, q154_18, q154_19, q154_20, q154_21, q154_22, q154_23, q154_26, q154_27, q154_28, ix, e4, c1, es, zuA_eq, zCall_some, Option.toList, List.cons_append, List.nil_append, zb_0, zb_1, zem, z01, z11, nI_add, ↓reduceIte, not_true_eq_false, not_false_eq_true, n0T, n1F, n11T, true_or, or_true, false_or]
theorem y_tradeOf {sc : Int32 × (Int32 → Int32)} {f : zF} {a : zA} {j : zJ} {d : Nat} {σ : Nat → Nat} {v w : Int32} (hR : MR σ a) (h4 : σ 4 ≤ 12) : cf sc (d + 2) 155 [.ref 85, .int v, .int w] f a j = some (some (.int (toS σ v w)), f, a, j) := by
  have ix : zIx 21 86 (nI 4) := ix86 (by omega)
  have e4 := hR 4 (by omega)
  rw [en155]
  unfold toS
  by_cases hv : zHas v (σ 4)
  · rw [if_pos hv]
    by_cases hw : zBtw w 0 2
    · obtain ⟨r, hr, rfl⟩ := zHas_of (by omega) hv
      obtain ⟨q, q1, q2, rfl⟩ := zBtw_of (by omega) (by omega) hw
      have ec : (nI r).toNatClampNeg = r := nI_clamp (by omega)
      rw [ec]
      have i40 : zIx 21 86 (nI (40 + r)) := ix86 (by omega)
      have i52 : zIx 21 86 (nI (52 + r)) := ix86 (by omega)
      have i64 : zIx 21 86 (nI (64 + r)) := ix86 (by omega)
      have e40 := hR (40 + r) (by omega)
      have e52 := hR (52 + r) (by omega)
      have e64 := hR (64 + r) (by omega)
      rcases (show q = 0 ∨ q = 1 ∨ q = 2 by omega) with rfl | rfl | rfl
      · rw [if_pos rfl]
        simp only [q155_0, q155_1, q155_2, q155_3, q155_4, q155_7, q155_8, q155_9, q155_10, q155_11, q155_12, q155_15, q155_18, q155_19, q155_20, q155_21, q155_24, q155_27, q155_30, q155_31, q155_32, q155_33, q155_36, q155_37, q155_40, q155_42, q155_45, q155_46, q155_47, q155_50, q155_52, q155_55, q155_57, q155_58, q155_59, q155_60, ix, e4, inHas (show σ 4 ≤ 1000 by omega), in02, eq_true hv, eq_true hw, i40, e40, zCall_some, Option.toList, List.cons_append, List.nil_append, zb_0, zb_1, zem, z01, z11, nI_add, ↓reduceIte, not_true_eq_false, not_false_eq_true, n0T, n1F, n11T, true_or, or_true, false_or]
      · rw [if_neg ne1_0, if_pos rfl]
        simp only [q155_0, q155_1, q155_2, q155_3, q155_4, q155_7, q155_8, q155_9, q155_10, q155_11, q155_12, q155_15, q155_18, q155_19, q155_20, q155_21, q155_24, q155_27, q155_30, q155_31, q155_32, q155_33, q155_36, q155_37, q155_40, q155_42, q155_45, q155_46, q155_47, q155_50, q155_52, q155_55, q155_57, q155_58, q155_59, q155_60, ix, e4, inHas (show σ 4 ≤ 1000 by omega), in02, eq_true hv, eq_true hw, i52, e52, zCall_some, Option.toList, List.cons_append, List.nil_append, zb_0, zb_1, zem, z01, z11, nI_add, ↓reduceIte, not_true_eq_false, not_false_eq_true, n0T, n1F, n11T, true_or, or_true, false_or]
      · rw [if_neg ne2_0, if_neg ne2_1, if_pos rfl]
        have n20 : ¬ nI 2 = 0 := by decide
        simp only [q155_0, q155_1, q155_2, q155_3, q155_4, q155_7, q155_8, q155_9, q155_10, q155_11, q155_12, q155_15, q155_18, q155_19, q155_20, q155_21, q155_24, q155_27, q155_30, q155_31, q155_32, q155_33, q155_36, q155_37, q155_40, q155_42, q155_45, q155_46, q155_47, q155_50, q155_52, q155_55, q155_57, q155_58, q155_59, q155_60, ix, e4, inHas (show σ 4 ≤ 1000 by omega), in02, eq_true hv, eq_true hw, n20, ne2_1, i64, e64, zCall_some, Option.toList, List.cons_append, List.nil_append, zb_0, zb_1, zem, z01, z11, nI_add, ↓reduceIte, not_true_eq_false, not_false_eq_true, n0T, n1F, n11T, true_or, or_true, false_or]
    · have n0' := zBtw_no (by omega) hw (q := 0) (by omega)
      have n1' := zBtw_no (by omega) hw (q := 1) (by omega)
      have n2' := zBtw_no (by omega) hw (q := 2) (by omega)
      rw [if_neg n0', if_neg n1', if_neg n2']
      simp only [q155_0, q155_1, q155_2, q155_3, q155_4, q155_7, q155_8, q155_9, q155_10, q155_11, q155_12, q155_15, q155_18, q155_19, q155_20, q155_21, q155_24, q155_27, q155_30, q155_31, q155_32, q155_33, q155_36, q155_37, q155_40, q155_42, q155_45, q155_46, q155_47, q155_50, q155_52, q155_55, q155_57, q155_58, q155_59, q155_60, ix, e4, inHas (show σ 4 ≤ 1000 by omega), in02, eq_true hv, eq_false hw, zCall_some, Option.toList, List.cons_append, List.nil_append, zb_0, zb_1, zem, z01, z11, nI_add, ↓reduceIte, not_true_eq_false, not_false_eq_true, n0T, n1F, n11T, true_or, or_true, false_or]
  · rw [if_neg hv]
    simp only [q155_0, q155_1, q155_2, q155_3, q155_4, q155_7, q155_8, q155_9, q155_10, q155_11, q155_12, q155_15, q155_18, q155_19, q155_20, q155_21, q155_24, q155_27, q155_30, q155_31, q155_32, q155_33, q155_36, q155_37, q155_40, q155_42, q155_45, q155_46, q155_47, q155_50, q155_52, q155_55, q155_57, q155_58, q155_59, q155_60, ix, e4, inHas (show σ 4 ≤ 1000 by omega), eq_false hv, zCall_some, Option.toList, List.cons_append, List.nil_append, zb_0, zb_1, zem, z01, z11, nI_add, ↓reduceIte, not_true_eq_false, not_false_eq_true, n0T, n1F, n11T, true_or, or_true, false_or]
theorem y_chain {sc : Int32 × (Int32 → Int32)} {f : zF} {a : zA} {j : zJ} {d : Nat} {σ : Nat → Nat} {v : Int32} (hR : MR σ a) (h8 : σ 0 ≤ 8) (hT : TrOK σ (σ 3)) : cf sc (d + 3) 156 [.ref 85, .int v] f a j = some (some (.int (chS σ v)), f, a, j) := by
  obtain ⟨h12, hT⟩ := hT
  have ix : zIx 21 86 (nI 4) := ix86 (by omega)
  have e4 := hR 4 (by omega)
  have hF := m_isField (sc := sc) (d := d) (f := f) (a := a) (j := j) (v := v) hR h8
  rw [en156]
  unfold chS
  by_cases hv : zHas v (σ 0)
  · rw [if_pos hv]
    obtain ⟨g, hg, rfl⟩ := zHas_of (by omega) hv
    rw [nI_clamp (n := g) (by omega)]
    have key := zLoopP (n := σ 4) (g := fun s : (Nat × Value) => rn sc (cf sc (d + 2)) 156 14 [.ref 85, .int (nI g), .int (chB σ g s.1), .int (nI s.1), s.2] [] f a j) (P := fun i s => s.1 = i) (by
      intro i s hi hP
      obtain ⟨i', v9⟩ := s
      have hP : i' = i := hP
      subst hP
      have c1 : ¬ nI (σ 4) ≤ nI i' := nI_ge hi (by omega)
      have i40 : zIx 21 86 (nI (40 + i')) := ix86 (by omega)
      have i52 : zIx 21 86 (nI (52 + i')) := ix86 (by omega)
      have e40 := hR (40 + i') (by omega)
      have e52 := hR (52 + i') (by omega)
      have ht := hT i' hi
      have q1 : (nI (σ (40 + i')) = nI g) = (σ (40 + i') = g) := propext (nI_eq (by omega) (by omega))
      have hb : (chB σ g i' >>> (nI (σ (40 + i')) &&& 31) &&& nI 1 = nI 1) = (bt (chB σ g i') (σ (40 + i')) = true) := propext (bit_q (by omega))
      refine ⟨(i' + 1, .int (nI (σ (40 + i')))), rfl, ?_⟩
      show _ = rn sc (cf sc (d + 2)) 156 14 [.ref 85, .int (nI g), .int (if σ (40 + i') = g ∨ bt (chB σ g i') (σ (40 + i')) = true then chB σ g i' ||| (nI 1 <<< (nI (σ (52 + i')) &&& 31)) else chB σ g i'), .int (nI (i' + 1)), .int (nI (σ (40 + i')))] [] f a j
      dsimp only
      rw [q156_14]
      by_cases w1 : σ (40 + i') = g
      · rw [if_pos (Or.inl w1)]
        simp only [q156_0, q156_1, q156_2, q156_5, q156_8, q156_9, q156_10, q156_11, q156_12, q156_13, q156_15, q156_16, q156_19, q156_20, q156_21, q156_24, q156_25, q156_28, q156_30, q156_31, q156_32, q156_33, q156_35, q156_37, q156_38, q156_41, q156_42, q156_44, q156_45, q156_46, q156_47, q156_48, q156_51, q156_52, q156_53, q156_54, q156_57, q156_59, q156_60, q156_61, q156_62, q156_63, q156_64, q156_65, q156_68, q156_71, q156_72, ix, e4, c1, i40, i52, e40, e52, q1, eq_true w1, zCall_some, Option.toList, List.cons_append, List.nil_append, zb_0, zb_1, zem, z01, z11, nI_add, ↓reduceIte, not_true_eq_false, not_false_eq_true, n0T, n1F, n11T, true_or, or_true, false_or]
      · by_cases w2 : bt (chB σ g i') (σ (40 + i')) = true
        · rw [if_pos (Or.inr w2)]
          simp only [q156_0, q156_1, q156_2, q156_5, q156_8, q156_9, q156_10, q156_11, q156_12, q156_13, q156_15, q156_16, q156_19, q156_20, q156_21, q156_24, q156_25, q156_28, q156_30, q156_31, q156_32, q156_33, q156_35, q156_37, q156_38, q156_41, q156_42, q156_44, q156_45, q156_46, q156_47, q156_48, q156_51, q156_52, q156_53, q156_54, q156_57, q156_59, q156_60, q156_61, q156_62, q156_63, q156_64, q156_65, q156_68, q156_71, q156_72, ix, e4, c1, i40, i52, e40, e52, q1, eq_false w1, hb, eq_true w2, zCall_some, Option.toList, List.cons_append, List.nil_append, zb_0, zb_1, zem, z01, z11, nI_add, ↓reduceIte, not_true_eq_false, not_false_eq_true, n0T, n1F, n11T, true_or, or_true, false_or]
        · rw [if_neg (fun q => q.elim w1 w2)]
          simp only [q156_0, q156_1, q156_2, q156_5, q156_8, q156_9, q156_10, q156_11, q156_12, q156_13, q156_15, q156_16, q156_19, q156_20, q156_21, q156_24, q156_25, q156_28, q156_30, q156_31, q156_32, q156_33, q156_35, q156_37, q156_38, q156_41, q156_42, q156_44, q156_45, q156_46, q156_47, q156_48, q156_51, q156_52, q156_53, q156_54, q156_57, q156_59, q156_60, q156_61, q156_62, q156_63, q156_64, q156_65, q156_68, q156_71, q156_72, ix, e4, c1, i40, i52, e40, e52, q1, eq_false w1, hb, eq_false w2, zCall_some, Option.toList, List.cons_append, List.nil_append, zb_0, zb_1, zem, z01, z11, nI_add, ↓reduceIte, not_true_eq_false, not_false_eq_true, n0T, n1F, n11T, true_or, or_true, false_or]) (0, .null) rfl
    obtain ⟨⟨i, v9⟩, hi, e⟩ := key
    have hi : i = σ 4 := hi
    subst hi
    have c1 : nI (σ 4) ≤ nI (σ 4) := nI_le (Nat.le_refl _) (by omega)
    simp only [q156_0, q156_1, q156_2, q156_5, q156_8, q156_9, q156_10, q156_11, q156_12, q156_13, q156_15, q156_16, q156_19, q156_20, q156_21, q156_24, q156_25, q156_28, q156_30, q156_31, q156_32, q156_33, q156_35, q156_37, q156_38, q156_41, q156_42, q156_44, q156_45, q156_46, q156_47, q156_48, q156_51, q156_52, q156_53, q156_54, q156_57, q156_59, q156_60, q156_61, q156_62, q156_63, q156_64, q156_65, q156_68, q156_71, q156_72, hF, eq_true hv, zCall_some, Option.toList, List.cons_append, List.nil_append, zb_0, zb_1, zem, z01, z11, nI_add, ↓reduceIte, not_true_eq_false, not_false_eq_true, n0T, n1F, n11T, true_or, or_true, false_or]
    refine Eq.trans (show _ = _ from e) ?_
    dsimp only
    simp only [q156_14, q156_15, q156_16, q156_19, q156_20, q156_21, q156_71, q156_72, ix, e4, c1, zCall_some, Option.toList, List.cons_append, List.nil_append, zb_0, zb_1, zem, z01, z11, nI_add, ↓reduceIte, not_true_eq_false, not_false_eq_true, n0T, n1F, n11T, true_or, or_true, false_or]
  · rw [if_neg hv]
    simp only [q156_0, q156_1, q156_2, q156_5, q156_8, q156_9, q156_10, q156_11, q156_12, q156_13, q156_15, q156_16, q156_19, q156_20, q156_21, q156_24, q156_25, q156_28, q156_30, q156_31, q156_32, q156_33, q156_35, q156_37, q156_38, q156_41, q156_42, q156_44, q156_45, q156_46, q156_47, q156_48, q156_51, q156_52, q156_53, q156_54, q156_57, q156_59, q156_60, q156_61, q156_62, q156_63, q156_64, q156_65, q156_68, q156_71, q156_72, hF, eq_false hv, zCall_some, Option.toList, List.cons_append, List.nil_append, zb_0, zb_1, zem, z01, z11, nI_add, ↓reduceIte, not_true_eq_false, not_false_eq_true, n0T, n1F, n11T, true_or, or_true, false_or]
/-- a row more -/
theorem MR.push {σ : Nat → Nat} {a : zA} {cnt p q x y : Nat} (h : MR σ a) (hc : cnt < 140) (hp : p + σ cnt < 140) (hq : q + σ cnt < 140) : MR (rwU cnt p q σ x y) (zuA (zuA (zuA a 86 (nI (p + σ cnt)) (nI x)) 86 (nI (q + σ cnt)) (nI y)) 86 (nI cnt) (nI (σ cnt + 1))) := ((h.set hp).set hq).set hc
theorem y_see {sc : Int32 × (Int32 → Int32)} {f : zF} {a : zA} {j : zJ} {d : Nat} {σ : Nat → Nat} {v h : Int32} (hR : MR σ a) (h8 : σ 0 ≤ 8) (hc : σ 5 ≤ 5) : ∃ a' : zA, cf sc (d + 3) 161 [.ref 85, .int v, .int h] f a j = some (some (.int (tlS 5 76 81 5 σ v h).1), f, a', j) ∧ MR (tlS 5 76 81 5 σ v h).2 a' ∧ ∀ k, k ≠ 86 → a' k = a k := by
  have ix : zIx 21 86 (nI 5) := ix86 (by omega)
  have e5 := hR 5 (by omega)
  have hF := m_isField (sc := sc) (d := d) (f := f) (a := a) (j := j) (v := v) hR h8
  rw [en161]
  unfold tlS
  by_cases hm : v = -1
  · rw [if_pos hm]
    refine ⟨zuA a 86 (nI 5) (nI 0), ?_, hR.set (by omega), fun k hk => zuA_nk hk⟩
    simp only [q161_0, q161_1, q161_2, q161_5, q161_6, q161_9, q161_10, q161_11, q161_12, q161_13, q161_14, q161_15, q161_16, q161_19, q161_22, q161_23, q161_24, q161_25, q161_26, q161_27, q161_30, q161_33, q161_36, q161_38, q161_39, q161_40, q161_43, q161_44, q161_45, q161_46, q161_49, q161_51, q161_52, q161_53, q161_56, q161_58, q161_59, q161_62, q161_63, q161_64, q161_65, q161_66, q161_67, q161_68, q161_71, q161_73, q161_74, q161_77, q161_78, q161_79, q161_80, q161_81, q161_82, q161_83, q161_86, q161_87, q161_88, q161_89, q161_90, q161_91, q161_92, q161_93, q161_96, q161_97, q161_98, eq_true hm, ix, zCall_some, Option.toList, List.cons_append, List.nil_append, zb_0, zb_1, zem, z01, z11, nI_add, ↓reduceIte, not_true_eq_false, not_false_eq_true, n0T, n1F, n11T, true_or, or_true, false_or]
  · rw [if_neg hm]
    by_cases hv : zHas v (σ 0)
    · rw [if_pos hv]
      by_cases hh : zBtw h 0 96
      · rw [if_pos hh]
        have q5 : (nI (σ 5) = nI 5) = (σ 5 = 5) := propext (nI_eq (by omega) (by omega))
        by_cases hf : σ 5 < 5
        · rw [if_pos hf]
          obtain ⟨g, hg, rfl⟩ := zHas_of (by omega) hv
          obtain ⟨m, m1, m2, rfl⟩ := zBtw_of (by omega) (by omega) hh
          rw [nI_clamp (n := g) (by omega), nI_clamp (n := m) (by omega)]
          have n5 : ¬ σ 5 = 5 := by omega
          have i1 : zIx 21 86 (nI (76 + σ 5)) := ix86 (by omega)
          have i2 : zIx 21 86 (nI (81 + σ 5)) := ix86 (by omega)
          have k1 : ¬ nI 5 = nI (76 + σ 5) := nI_ne (by omega) (by omega) (by omega)
          have k2 : ¬ nI 5 = nI (81 + σ 5) := nI_ne (by omega) (by omega) (by omega)
          have g1 : ∀ x : Int32, zuA a 86 (nI (76 + σ 5)) x 86 (nI 5) = nI (σ 5) := fun x => by rw [zuA_ni k1]; exact e5
          have g2 : ∀ x y : Int32, zuA (zuA a 86 (nI (76 + σ 5)) x) 86 (nI (81 + σ 5)) y 86 (nI 5) = nI (σ 5) := fun x y => by rw [zuA_ni k2]; exact g1 x
          refine ⟨_, ?_, hR.push (x := g) (y := m) (cnt := 5) (p := 76) (q := 81) (by omega) (by omega) (by omega), fun k hk => by rw [zuA_nk hk, zuA_nk hk, zuA_nk hk]⟩
          simp only [q161_0, q161_1, q161_2, q161_5, q161_6, q161_9, q161_10, q161_11, q161_12, q161_13, q161_14, q161_15, q161_16, q161_19, q161_22, q161_23, q161_24, q161_25, q161_26, q161_27, q161_30, q161_33, q161_36, q161_38, q161_39, q161_40, q161_43, q161_44, q161_45, q161_46, q161_49, q161_51, q161_52, q161_53, q161_56, q161_58, q161_59, q161_62, q161_63, q161_64, q161_65, q161_66, q161_67, q161_68, q161_71, q161_73, q161_74, q161_77, q161_78, q161_79, q161_80, q161_81, q161_82, q161_83, q161_86, q161_87, q161_88, q161_89, q161_90, q161_91, q161_92, q161_93, q161_96, q161_97, q161_98, hm, hF, in096, eq_true hv, eq_true hh, ix, e5, q5, n5, i1, i2, g1, g2, zuA_eq, zCall_some, Option.toList, List.cons_append, List.nil_append, zb_0, zb_1, zem, z01, z11, nI_add, ↓reduceIte, not_true_eq_false, not_false_eq_true, n0T, n1F, n11T, true_or, or_true, false_or]
        · rw [if_neg hf]
          have n5 : σ 5 = 5 := by omega
          refine ⟨a, ?_, hR, fun _ _ => rfl⟩
          simp only [q161_0, q161_1, q161_2, q161_5, q161_6, q161_9, q161_10, q161_11, q161_12, q161_13, q161_14, q161_15, q161_16, q161_19, q161_22, q161_23, q161_24, q161_25, q161_26, q161_27, q161_30, q161_33, q161_36, q161_38, q161_39, q161_40, q161_43, q161_44, q161_45, q161_46, q161_49, q161_51, q161_52, q161_53, q161_56, q161_58, q161_59, q161_62, q161_63, q161_64, q161_65, q161_66, q161_67, q161_68, q161_71, q161_73, q161_74, q161_77, q161_78, q161_79, q161_80, q161_81, q161_82, q161_83, q161_86, q161_87, q161_88, q161_89, q161_90, q161_91, q161_92, q161_93, q161_96, q161_97, q161_98, hm, hF, in096, eq_true hv, eq_true hh, ix, e5, q5, n5, zCall_some, Option.toList, List.cons_append, List.nil_append, zb_0, zb_1, zem, z01, z11, nI_add, ↓reduceIte, not_true_eq_false, not_false_eq_true, n0T, n1F, n11T, true_or, or_true, false_or]
      · rw [if_neg hh]
        refine ⟨a, ?_, hR, fun _ _ => rfl⟩
        simp only [q161_0, q161_1, q161_2, q161_5, q161_6, q161_9, q161_10, q161_11, q161_12, q161_13, q161_14, q161_15, q161_16, q161_19, q161_22, q161_23, q161_24, q161_25, q161_26, q161_27, q161_30, q161_33, q161_36, q161_38, q161_39, q161_40, q161_43, q161_44, q161_45, q161_46, q161_49, q161_51, q161_52, q161_53, q161_56, q161_58, q161_59, q161_62, q161_63, q161_64, q161_65, q161_66, q161_67, q161_68, q161_71, q161_73, q161_74, q161_77, q161_78, q161_79, q161_80, q161_81, q161_82, q161_83, q161_86, q161_87, q161_88, q161_89, q161_90, q161_91, q161_92, q161_93, q161_96, q161_97, q161_98, hm, hF, in096, eq_true hv, eq_false hh, zCall_some, Option.toList, List.cons_append, List.nil_append, zb_0, zb_1, zem, z01, z11, nI_add, ↓reduceIte, not_true_eq_false, not_false_eq_true, n0T, n1F, n11T, true_or, or_true, false_or]
    · rw [if_neg hv]
      refine ⟨a, ?_, hR, fun _ _ => rfl⟩
      simp only [q161_0, q161_1, q161_2, q161_5, q161_6, q161_9, q161_10, q161_11, q161_12, q161_13, q161_14, q161_15, q161_16, q161_19, q161_22, q161_23, q161_24, q161_25, q161_26, q161_27, q161_30, q161_33, q161_36, q161_38, q161_39, q161_40, q161_43, q161_44, q161_45, q161_46, q161_49, q161_51, q161_52, q161_53, q161_56, q161_58, q161_59, q161_62, q161_63, q161_64, q161_65, q161_66, q161_67, q161_68, q161_71, q161_73, q161_74, q161_77, q161_78, q161_79, q161_80, q161_81, q161_82, q161_83, q161_86, q161_87, q161_88, q161_89, q161_90, q161_91, q161_92, q161_93, q161_96, q161_97, q161_98, hm, hF, eq_false hv, zCall_some, Option.toList, List.cons_append, List.nil_append, zb_0, zb_1, zem, z01, z11, nI_add, ↓reduceIte, not_true_eq_false, not_false_eq_true, n0T, n1F, n11T, true_or, or_true, false_or]
theorem y_book {sc : Int32 × (Int32 → Int32)} {f : zF} {a : zA} {j : zJ} {d : Nat} {σ : Nat → Nat} {v h : Int32} (hR : MR σ a) (h8 : σ 0 ≤ 8) (hc : σ 7 ≤ 8) : ∃ a' : zA, cf sc (d + 3) 170 [.ref 85, .int v, .int h] f a j = some (some (.int (tlS 7 102 110 8 σ v h).1), f, a', j) ∧ MR (tlS 7 102 110 8 σ v h).2 a' ∧ ∀ k, k ≠ 86 → a' k = a k := by
  have ix : zIx 21 86 (nI 7) := ix86 (by omega)
  have e5 := hR 7 (by omega)
  have hF := m_isField (sc := sc) (d := d) (f := f) (a := a) (j := j) (v := v) hR h8
  rw [en170]
  unfold tlS
  by_cases hm : v = -1
  · rw [if_pos hm]
    refine ⟨zuA a 86 (nI 7) (nI 0), ?_, hR.set (by omega), fun k hk => zuA_nk hk⟩
    simp only [q170_0, q170_1, q170_2, q170_5, q170_6, q170_9, q170_11, q170_12, q170_13, q170_14, q170_15, q170_16, q170_17, q170_20, q170_23, q170_24, q170_25, q170_26, q170_27, q170_28, q170_31, q170_34, q170_37, q170_39, q170_40, q170_41, q170_44, q170_46, q170_47, q170_49, q170_52, q170_54, q170_55, q170_56, q170_59, q170_61, q170_62, q170_65, q170_67, q170_68, q170_69, q170_70, q170_71, q170_72, q170_75, q170_77, q170_78, q170_81, q170_83, q170_84, q170_85, q170_86, q170_87, q170_88, q170_91, q170_93, q170_94, q170_95, q170_96, q170_97, q170_98, q170_99, q170_102, q170_104, q170_105, eq_true hm, ix, zCall_some, Option.toList, List.cons_append, List.nil_append, zb_0, zb_1, zem, z01, z11, nI_add, ↓reduceIte, not_true_eq_false, not_false_eq_true, n0T, n1F, n11T, true_or, or_true, false_or]
  · rw [if_neg hm]
    by_cases hv : zHas v (σ 0)
    · rw [if_pos hv]
      by_cases hh : zBtw h 0 96
      · rw [if_pos hh]
        have q5 : (nI (σ 7) = nI 8) = (σ 7 = 8) := propext (nI_eq (by omega) (by omega))
        by_cases hf : σ 7 < 8
        · rw [if_pos hf]
          obtain ⟨g, hg, rfl⟩ := zHas_of (by omega) hv
          obtain ⟨m, m1, m2, rfl⟩ := zBtw_of (by omega) (by omega) hh
          rw [nI_clamp (n := g) (by omega), nI_clamp (n := m) (by omega)]
          have n5 : ¬ σ 7 = 8 := by omega
          have i1 : zIx 21 86 (nI (102 + σ 7)) := ix86 (by omega)
          have i2 : zIx 21 86 (nI (110 + σ 7)) := ix86 (by omega)
          have k1 : ¬ nI 7 = nI (102 + σ 7) := nI_ne (by omega) (by omega) (by omega)
          have k2 : ¬ nI 7 = nI (110 + σ 7) := nI_ne (by omega) (by omega) (by omega)
          have g1 : ∀ x : Int32, zuA a 86 (nI (102 + σ 7)) x 86 (nI 7) = nI (σ 7) := fun x => by rw [zuA_ni k1]; exact e5
          have g2 : ∀ x y : Int32, zuA (zuA a 86 (nI (102 + σ 7)) x) 86 (nI (110 + σ 7)) y 86 (nI 7) = nI (σ 7) := fun x y => by rw [zuA_ni k2]; exact g1 x
          refine ⟨_, ?_, hR.push (x := g) (y := m) (cnt := 7) (p := 102) (q := 110) (by omega) (by omega) (by omega), fun k hk => by rw [zuA_nk hk, zuA_nk hk, zuA_nk hk]⟩
          simp only [q170_0, q170_1, q170_2, q170_5, q170_6, q170_9, q170_11, q170_12, q170_13, q170_14, q170_15, q170_16, q170_17, q170_20, q170_23, q170_24, q170_25, q170_26, q170_27, q170_28, q170_31, q170_34, q170_37, q170_39, q170_40, q170_41, q170_44, q170_46, q170_47, q170_49, q170_52, q170_54, q170_55, q170_56, q170_59, q170_61, q170_62, q170_65, q170_67, q170_68, q170_69, q170_70, q170_71, q170_72, q170_75, q170_77, q170_78, q170_81, q170_83, q170_84, q170_85, q170_86, q170_87, q170_88, q170_91, q170_93, q170_94, q170_95, q170_96, q170_97, q170_98, q170_99, q170_102, q170_104, q170_105, hm, hF, in096, eq_true hv, eq_true hh, ix, e5, q5, n5, i1, i2, g1, g2, zuA_eq, zCall_some, Option.toList, List.cons_append, List.nil_append, zb_0, zb_1, zem, z01, z11, nI_add, ↓reduceIte, not_true_eq_false, not_false_eq_true, n0T, n1F, n11T, true_or, or_true, false_or]
        · rw [if_neg hf]
          have n5 : σ 7 = 8 := by omega
          refine ⟨a, ?_, hR, fun _ _ => rfl⟩
          simp only [q170_0, q170_1, q170_2, q170_5, q170_6, q170_9, q170_11, q170_12, q170_13, q170_14, q170_15, q170_16, q170_17, q170_20, q170_23, q170_24, q170_25, q170_26, q170_27, q170_28, q170_31, q170_34, q170_37, q170_39, q170_40, q170_41, q170_44, q170_46, q170_47, q170_49, q170_52, q170_54, q170_55, q170_56, q170_59, q170_61, q170_62, q170_65, q170_67, q170_68, q170_69, q170_70, q170_71, q170_72, q170_75, q170_77, q170_78, q170_81, q170_83, q170_84, q170_85, q170_86, q170_87, q170_88, q170_91, q170_93, q170_94, q170_95, q170_96, q170_97, q170_98, q170_99, q170_102, q170_104, q170_105, hm, hF, in096, eq_true hv, eq_true hh, ix, e5, q5, n5, zCall_some, Option.toList, List.cons_append, List.nil_append, zb_0, zb_1, zem, z01, z11, nI_add, ↓reduceIte, not_true_eq_false, not_false_eq_true, n0T, n1F, n11T, true_or, or_true, false_or]
      · rw [if_neg hh]
        refine ⟨a, ?_, hR, fun _ _ => rfl⟩
        simp only [q170_0, q170_1, q170_2, q170_5, q170_6, q170_9, q170_11, q170_12, q170_13, q170_14, q170_15, q170_16, q170_17, q170_20, q170_23, q170_24, q170_25, q170_26, q170_27, q170_28, q170_31, q170_34, q170_37, q170_39, q170_40, q170_41, q170_44, q170_46, q170_47, q170_49, q170_52, q170_54, q170_55, q170_56, q170_59, q170_61, q170_62, q170_65, q170_67, q170_68, q170_69, q170_70, q170_71, q170_72, q170_75, q170_77, q170_78, q170_81, q170_83, q170_84, q170_85, q170_86, q170_87, q170_88, q170_91, q170_93, q170_94, q170_95, q170_96, q170_97, q170_98, q170_99, q170_102, q170_104, q170_105, hm, hF, in096, eq_true hv, eq_false hh, zCall_some, Option.toList, List.cons_append, List.nil_append, zb_0, zb_1, zem, z01, z11, nI_add, ↓reduceIte, not_true_eq_false, not_false_eq_true, n0T, n1F, n11T, true_or, or_true, false_or]
    · rw [if_neg hv]
      refine ⟨a, ?_, hR, fun _ _ => rfl⟩
      simp only [q170_0, q170_1, q170_2, q170_5, q170_6, q170_9, q170_11, q170_12, q170_13, q170_14, q170_15, q170_16, q170_17, q170_20, q170_23, q170_24, q170_25, q170_26, q170_27, q170_28, q170_31, q170_34, q170_37, q170_39, q170_40, q170_41, q170_44, q170_46, q170_47, q170_49, q170_52, q170_54, q170_55, q170_56, q170_59, q170_61, q170_62, q170_65, q170_67, q170_68, q170_69, q170_70, q170_71, q170_72, q170_75, q170_77, q170_78, q170_81, q170_83, q170_84, q170_85, q170_86, q170_87, q170_88, q170_91, q170_93, q170_94, q170_95, q170_96, q170_97, q170_98, q170_99, q170_102, q170_104, q170_105, hm, hF, eq_false hv, zCall_some, Option.toList, List.cons_append, List.nil_append, zb_0, zb_1, zem, z01, z11, nI_add, ↓reduceIte, not_true_eq_false, not_false_eq_true, n0T, n1F, n11T, true_or, or_true, false_or]
/-- behind the tests -/
theorem pn_end {sc : Int32 × (Int32 → Int32)} {f : zF} {a : zA} {j : zJ} {d w n : Nat} {σ : Nat → Nat} (hR : MR σ a) (h6 : σ 6 ≤ 8) (hw : w < 2 ^ 31) (hn : n < 2 ^ 31) : ∃ a' : zA, rn sc (cf sc (d + 2)) 167 97 [.ref 85, .int (nI w), .int (nI n)] [] f a j = some (some (.int (pnU σ (nI w) (nI n)).1), f, a', j) ∧ MR (pnU σ (nI w) (nI n)).2 a' ∧ ∀ k, k ≠ 86 → a' k = a k := by
  have ix : zIx 21 86 (nI 6) := ix86 (by omega)
  have e5 := hR 6 (by omega)
  have q5 : (nI (σ 6) = nI 8) = (σ 6 = 8) := propext (nI_eq (by omega) (by omega))
  unfold pnU
  by_cases hf : σ 6 < 8
  · rw [if_pos hf, nI_clamp hw, nI_clamp hn]
    have n5 : ¬ σ 6 = 8 := by omega
    have i1 : zIx 21 86 (nI (86 + σ 6)) := ix86 (by omega)
    have i2 : zIx 21 86 (nI (94 + σ 6)) := ix86 (by omega)
    have k1 : ¬ nI 6 = nI (86 + σ 6) := nI_ne (by omega) (by omega) (by omega)
    have k2 : ¬ nI 6 = nI (94 + σ 6) := nI_ne (by omega) (by omega) (by omega)
    have g1 : ∀ x : Int32, zuA a 86 (nI (86 + σ 6)) x 86 (nI 6) = nI (σ 6) := fun x => by rw [zuA_ni k1]; exact e5
    have g2 : ∀ x y : Int32, zuA (zuA a 86 (nI (86 + σ 6)) x) 86 (nI (94 + σ 6)) y 86 (nI 6) = nI (σ 6) := fun x y => by rw [zuA_ni k2]; exact g1 x
    refine ⟨_, ?_, hR.push (x := w) (y := n) (cnt := 6) (p := 86) (q := 94) (by omega) (by omega) (by omega), fun k hk => by rw [zuA_nk hk, zuA_nk hk, zuA_nk hk]⟩
    simp only [q167_0, q167_1, q167_2, q167_5, q167_6, q167_9, q167_11, q167_12, q167_13, q167_14, q167_15, q167_16, q167_17, q167_18, q167_21, q167_24, q167_27, q167_28, q167_31, q167_32, q167_33, q167_36, q167_39, q167_40, q167_41, q167_42, q167_43, q167_46, q167_47, q167_48, q167_49, q167_52, q167_55, q167_58, q167_59, q167_60, q167_63, q167_64, q167_65, q167_66, q167_69, q167_72, q167_75, q167_76, q167_77, q167_80, q167_81, q167_82, q167_85, q167_88, q167_91, q167_94, q167_96, q167_97, q167_98, q167_101, q167_103, q167_104, q167_106, q167_109, q167_111, q167_112, q167_113, q167_116, q167_118, q167_119, q167_122, q167_124, q167_125, q167_126, q167_127, q167_128, q167_129, q167_132, q167_134, q167_135, q167_138, q167_140, q167_141, q167_142, q167_143, q167_144, q167_145, q167_148, q167_150, q167_151, q167_152, q167_153, q167_154, q167_155, q167_156, q167_159, q167_161, q167_162, ix, e5, q5, n5, i1, i2, g1, g2, zuA_eq, zCall_some, Option.toList, List.cons_append, List.nil_append, zb_0, zb_1, zem, z01, z11, nI_add, ↓reduceIte, not_true_eq_false, not_false_eq_true, n0T, n1F, n11T, true_or, or_true, false_or]
  · rw [if_neg hf]
    have n5 : σ 6 = 8 := by omega
    refine ⟨a, ?_, hR, fun _ _ => rfl⟩
    simp only [q167_0, q167_1, q167_2, q167_5, q167_6, q167_9, q167_11, q167_12, q167_13, q167_14, q167_15, q167_16, q167_17, q167_18, q167_21, q167_24, q167_27, q167_28, q167_31, q167_32, q167_33, q167_36, q167_39, q167_40, q167_41, q167_42, q167_43, q167_46, q167_47, q167_48, q167_49, q167_52, q167_55, q167_58, q167_59, q167_60, q167_63, q167_64, q167_65, q167_66, q167_69, q167_72, q167_75, q167_76, q167_77, q167_80, q167_81, q167_82, q167_85, q167_88, q167_91, q167_94, q167_96, q167_97, q167_98, q167_101, q167_103, q167_104, q167_106, q167_109, q167_111, q167_112, q167_113, q167_116, q167_118, q167_119, q167_122, q167_124, q167_125, q167_126, q167_127, q167_128, q167_129, q167_132, q167_134, q167_135, q167_138, q167_140, q167_141, q167_142, q167_143, q167_144, q167_145, q167_148, q167_150, q167_151, q167_152, q167_153, q167_154, q167_155, q167_156, q167_159, q167_161, q167_162, ix, e5, q5, n5, zCall_some, Option.toList, List.cons_append, List.nil_append, zb_0, zb_1, zem, z01, z11, nI_add, ↓reduceIte, not_true_eq_false, not_false_eq_true, n0T, n1F, n11T, true_or, or_true, false_or]
theorem y_plan {sc : Int32 × (Int32 → Int32)} {f : zF} {a : zA} {j : zJ} {d : Nat} {σ : Nat → Nat} {w n : Int32} (hR : MR σ a) (h8 : σ 0 ≤ 8) (h6 : σ 6 ≤ 8) : ∃ a' : zA, cf sc (d + 3) 167 [.ref 85, .int w, .int n] f a j = some (some (.int (pnS σ w n).1), f, a', j) ∧ MR (pnS σ w n).2 a' ∧ ∀ k, k ≠ 86 → a' k = a k := by
  have ix : zIx 21 86 (nI 6) := ix86 (by omega)
  have hF := m_isField (sc := sc) (d := d) (f := f) (a := a) (j := j) (v := n) hR h8
  have n20 : ¬ nI 2 = 0 := by decide
  have n30 : ¬ nI 3 = 0 := by decide
  have m1 : ∀ q, q ≤ 3 → ¬ nI q = -1 := by decide
  rw [en167]
  unfold pnS
  by_cases hm : w = -1
  · rw [if_pos hm]
    refine ⟨zuA a 86 (nI 6) (nI 0), ?_, hR.set (by omega), fun k hk => zuA_nk hk⟩
    simp only [q167_0, q167_1, q167_2, q167_5, q167_6, q167_9, q167_11, q167_12, q167_13, q167_14, q167_15, q167_16, q167_17, q167_18, q167_21, q167_24, q167_27, q167_28, q167_31, q167_32, q167_33, q167_36, q167_39, q167_40, q167_41, q167_42, q167_43, q167_46, q167_47, q167_48, q167_49, q167_52, q167_55, q167_58, q167_59, q167_60, q167_63, q167_64, q167_65, q167_66, q167_69, q167_72, q167_75, q167_76, q167_77, q167_80, q167_81, q167_82, q167_85, q167_88, q167_91, q167_94, q167_96, q167_97, q167_98, q167_101, q167_103, q167_104, q167_106, q167_109, q167_111, q167_112, q167_113, q167_116, q167_118, q167_119, q167_122, q167_124, q167_125, q167_126, q167_127, q167_128, q167_129, q167_132, q167_134, q167_135, q167_138, q167_140, q167_141, q167_142, q167_143, q167_144, q167_145, q167_148, q167_150, q167_151, q167_152, q167_153, q167_154, q167_155, q167_156, q167_159, q167_161, q167_162, eq_true hm, ix, zCall_some, Option.toList, List.cons_append, List.nil_append, zb_0, zb_1, zem, z01, z11, nI_add, ↓reduceIte, not_true_eq_false, not_false_eq_true, n0T, n1F, n11T, true_or, or_true, false_or]
  · rw [if_neg hm]
    by_cases hw : zBtw w 0 3
    · rw [if_pos hw]
      obtain ⟨x, x1, x2, rfl⟩ := zBtw_of (by omega) (by omega) hw
      rcases (show x = 0 ∨ x = 1 ∨ x = 2 ∨ x = 3 by omega) with rfl | rfl | rfl | rfl
      · rw [if_pos rfl]
        by_cases hv : zHas n (σ 0)
        · rw [if_pos hv]
          obtain ⟨g, hg, rfl⟩ := zHas_of (by omega) hv
          obtain ⟨a', r1, r2⟩ := pn_end (sc := sc) (d := d) (f := f) (j := j) (w := 0) (n := g) hR h6 (by omega) (by omega)
          refine ⟨a', ?_, r2⟩
          rw [← r1]
          simp only [q167_0, q167_1, q167_2, q167_5, q167_6, q167_9, q167_11, q167_12, q167_13, q167_14, q167_15, q167_16, q167_17, q167_18, q167_21, q167_24, q167_27, q167_28, q167_31, q167_32, q167_33, q167_36, q167_39, q167_40, q167_41, q167_42, q167_43, q167_46, q167_47, q167_48, q167_49, q167_52, q167_55, q167_58, q167_59, q167_60, q167_63, q167_64, q167_65, q167_66, q167_69, q167_72, q167_75, q167_76, q167_77, q167_80, q167_81, q167_82, q167_85, q167_88, q167_91, q167_94, q167_96, q167_98, q167_101, q167_103, q167_104, q167_106, q167_109, q167_111, q167_112, q167_113, q167_116, q167_118, q167_119, q167_122, q167_124, q167_125, q167_126, q167_127, q167_128, q167_129, q167_132, q167_134, q167_135, q167_138, q167_140, q167_141, q167_142, q167_143, q167_144, q167_145, q167_148, q167_150, q167_151, q167_152, q167_153, q167_154, q167_155, q167_156, q167_159, q167_161, q167_162, hm, hF, in03, eq_true hw, eq_true hv, ne0_1, ne0_2, ne0_3, ne0_4, ne0_5, ne0_6, ne0_7, ne0_8, ne0_9, ne0_10, ne0_11, ne0_12, ne1_0, ne1_2, ne1_3, ne1_4, ne1_5, ne1_6, ne1_7, ne1_8, ne1_9, ne1_10, ne1_11, ne1_12, ne2_0, ne2_1, ne2_3, ne2_4, ne2_5, ne2_6, ne2_7, ne2_8, ne2_9, ne2_10, ne2_11, ne2_12, ne3_0, ne3_1, ne3_2, ne3_4, ne3_5, ne3_6, ne3_7, ne3_8, ne3_9, ne3_10, ne3_11, ne3_12, ne4_0, ne4_1, ne4_2, ne4_3, ne4_5, ne4_6, ne4_7, ne4_8, ne4_9, ne4_10, ne4_11, ne4_12, ne5_0, ne5_1, ne5_2, ne5_3, ne5_4, ne5_6, ne5_7, ne5_8, ne5_9, ne5_10, ne5_11, ne5_12, ne6_0, ne6_1, ne6_2, ne6_3, ne6_4, ne6_5, ne6_7, ne6_8, ne6_9, ne6_10, ne6_11, ne6_12, ne7_0, ne7_1, ne7_2, ne7_3, ne7_4, ne7_5, ne7_6, ne7_8, ne7_9, ne7_10, ne7_11, ne7_12, ne8_0, ne8_1, ne8_2, ne8_3, ne8_4, ne8_5, ne8_6, ne8_7, ne8_9, ne8_10, ne8_11, ne8_12, ne9_0, ne9_1, ne9_2, ne9_3, ne9_4, ne9_5, ne9_6, ne9_7, ne9_8, ne9_10, ne9_11, ne9_12, ne10_0, ne10_1, ne10_2, ne10_3, ne10_4, ne10_5, ne10_6, ne10_7, ne10_8, ne10_9, ne10_11, ne10_12, ne11_0, ne11_1, ne11_2, ne11_3, ne11_4, ne11_5, ne11_6, ne11_7, ne11_8, ne11_9, ne11_10, ne11_12, ne12_0, ne12_1, ne12_2, ne12_3, ne12_4, ne12_5, ne12_6, ne12_7, ne12_8, ne12_9, ne12_10, ne12_11, zCall_some, Option.toList, List.cons_append, List.nil_append, zb_0, zb_1, zem, z01, z11, nI_add, ↓reduceIte, not_true_eq_false, not_false_eq_true, n0T, n1F, n11T, true_or, or_true, false_or]
        · rw [if_neg hv]
          refine ⟨a, ?_, hR, fun _ _ => rfl⟩
          simp only [q167_0, q167_1, q167_2, q167_5, q167_6, q167_9, q167_11, q167_12, q167_13, q167_14, q167_15, q167_16, q167_17, q167_18, q167_21, q167_24, q167_27, q167_28, q167_31, q167_32, q167_33, q167_36, q167_39, q167_40, q167_41, q167_42, q167_43, q167_46, q167_47, q167_48, q167_49, q167_52, q167_55, q167_58, q167_59, q167_60, q167_63, q167_64, q167_65, q167_66, q167_69, q167_72, q167_75, q167_76, q167_77, q167_80, q167_81, q167_82, q167_85, q167_88, q167_91, q167_94, q167_96, q167_98, q167_101, q167_103, q167_104, q167_106, q167_109, q167_111, q167_112, q167_113, q167_116, q167_118, q167_119, q167_122, q167_124, q167_125, q167_126, q167_127, q167_128, q167_129, q167_132, q167_134, q167_135, q167_138, q167_140, q167_141, q167_142, q167_143, q167_144, q167_145, q167_148, q167_150, q167_151, q167_152, q167_153, q167_154, q167_155, q167_156, q167_159, q167_161, q167_162, hm, hF, in03, eq_true hw, eq_false hv, ne0_1, ne0_2, ne0_3, ne0_4, ne0_5, ne0_6, ne0_7, ne0_8, ne0_9, ne0_10, ne0_11, ne0_12, ne1_0, ne1_2, ne1_3, ne1_4, ne1_5, ne1_6, ne1_7, ne1_8, ne1_9, ne1_10, ne1_11, ne1_12, ne2_0, ne2_1, ne2_3, ne2_4, ne2_5, ne2_6, ne2_7, ne2_8, ne2_9, ne2_10, ne2_11, ne2_12, ne3_0, ne3_1, ne3_2, ne3_4, ne3_5, ne3_6, ne3_7, ne3_8, ne3_9, ne3_10, ne3_11, ne3_12, ne4_0, ne4_1, ne4_2, ne4_3, ne4_5, ne4_6, ne4_7, ne4_8, ne4_9, ne4_10, ne4_11, ne4_12, ne5_0, ne5_1, ne5_2, ne5_3, ne5_4, ne5_6, ne5_7, ne5_8, ne5_9, ne5_10, ne5_11, ne5_12, ne6_0, ne6_1, ne6_2, ne6_3, ne6_4, ne6_5, ne6_7, ne6_8, ne6_9, ne6_10, ne6_11, ne6_12, ne7_0, ne7_1, ne7_2, ne7_3, ne7_4, ne7_5, ne7_6, ne7_8, ne7_9, ne7_10, ne7_11, ne7_12, ne8_0, ne8_1, ne8_2, ne8_3, ne8_4, ne8_5, ne8_6, ne8_7, ne8_9, ne8_10, ne8_11, ne8_12, ne9_0, ne9_1, ne9_2, ne9_3, ne9_4, ne9_5, ne9_6, ne9_7, ne9_8, ne9_10, ne9_11, ne9_12, ne10_0, ne10_1, ne10_2, ne10_3, ne10_4, ne10_5, ne10_6, ne10_7, ne10_8, ne10_9, ne10_11, ne10_12, ne11_0, ne11_1, ne11_2, ne11_3, ne11_4, ne11_5, ne11_6, ne11_7, ne11_8, ne11_9, ne11_10, ne11_12, ne12_0, ne12_1, ne12_2, ne12_3, ne12_4, ne12_5, ne12_6, ne12_7, ne12_8, ne12_9, ne12_10, ne12_11, zCall_some, Option.toList, List.cons_append, List.nil_append, zb_0, zb_1, zem, z01, z11, nI_add, ↓reduceIte, not_true_eq_false, not_false_eq_true, n0T, n1F, n11T, true_or, or_true, false_or]
      · rw [if_neg ne1_0, if_pos rfl]
        by_cases hv : zBtw n 0 52
        · rw [if_pos hv]
          obtain ⟨g, g1, g2, rfl⟩ := zBtw_of (by omega) (by omega) hv
          obtain ⟨a', r1, r2⟩ := pn_end (sc := sc) (d := d) (f := f) (j := j) (w := 1) (n := g) hR h6 (by omega) (by omega)
          refine ⟨a', ?_, r2⟩
          rw [← r1]
          simp only [q167_0, q167_1, q167_2, q167_5, q167_6, q167_9, q167_11, q167_12, q167_13, q167_14, q167_15, q167_16, q167_17, q167_18, q167_21, q167_24, q167_27, q167_28, q167_31, q167_32, q167_33, q167_36, q167_39, q167_40, q167_41, q167_42, q167_43, q167_46, q167_47, q167_48, q167_49, q167_52, q167_55, q167_58, q167_59, q167_60, q167_63, q167_64, q167_65, q167_66, q167_69, q167_72, q167_75, q167_76, q167_77, q167_80, q167_81, q167_82, q167_85, q167_88, q167_91, q167_94, q167_96, q167_98, q167_101, q167_103, q167_104, q167_106, q167_109, q167_111, q167_112, q167_113, q167_116, q167_118, q167_119, q167_122, q167_124, q167_125, q167_126, q167_127, q167_128, q167_129, q167_132, q167_134, q167_135, q167_138, q167_140, q167_141, q167_142, q167_143, q167_144, q167_145, q167_148, q167_150, q167_151, q167_152, q167_153, q167_154, q167_155, q167_156, q167_159, q167_161, q167_162, hm, in03, in052, eq_true hw, eq_true hv, ne0_1, ne0_2, ne0_3, ne0_4, ne0_5, ne0_6, ne0_7, ne0_8, ne0_9, ne0_10, ne0_11, ne0_12, ne1_0, ne1_2, ne1_3, ne1_4, ne1_5, ne1_6, ne1_7, ne1_8, ne1_9, ne1_10, ne1_11, ne1_12, ne2_0, ne2_1, ne2_3, ne2_4, ne2_5, ne2_6, ne2_7, ne2_8, ne2_9, ne2_10, ne2_11, ne2_12, ne3_0, ne3_1, ne3_2, ne3_4, ne3_5, ne3_6, ne3_7, ne3_8, ne3_9, ne3_10, ne3_11, ne3_12, ne4_0, ne4_1, ne4_2, ne4_3, ne4_5, ne4_6, ne4_7, ne4_8, ne4_9, ne4_10, ne4_11, ne4_12, ne5_0, ne5_1, ne5_2, ne5_3, ne5_4, ne5_6, ne5_7, ne5_8, ne5_9, ne5_10, ne5_11, ne5_12, ne6_0, ne6_1, ne6_2, ne6_3, ne6_4, ne6_5, ne6_7, ne6_8, ne6_9, ne6_10, ne6_11, ne6_12, ne7_0, ne7_1, ne7_2, ne7_3, ne7_4, ne7_5, ne7_6, ne7_8, ne7_9, ne7_10, ne7_11, ne7_12, ne8_0, ne8_1, ne8_2, ne8_3, ne8_4, ne8_5, ne8_6, ne8_7, ne8_9, ne8_10, ne8_11, ne8_12, ne9_0, ne9_1, ne9_2, ne9_3, ne9_4, ne9_5, ne9_6, ne9_7, ne9_8, ne9_10, ne9_11, ne9_12, ne10_0, ne10_1, ne10_2, ne10_3, ne10_4, ne10_5, ne10_6, ne10_7, ne10_8, ne10_9, ne10_11, ne10_12, ne11_0, ne11_1, ne11_2, ne11_3, ne11_4, ne11_5, ne11_6, ne11_7, ne11_8, ne11_9, ne11_10, ne11_12, ne12_0, ne12_1, ne12_2, ne12_3, ne12_4, ne12_5, ne12_6, ne12_7, ne12_8, ne12_9, ne12_10, ne12_11, zCall_some, Option.toList, List.cons_append, List.nil_append, zb_0, zb_1, zem, z01, z11, nI_add, ↓reduceIte, not_true_eq_false, not_false_eq_true, n0T, n1F, n11T, true_or, or_true, false_or]
        · rw [if_neg hv]
          refine ⟨a, ?_, hR, fun _ _ => rfl⟩
          simp only [q167_0, q167_1, q167_2, q167_5, q167_6, q167_9, q167_11, q167_12, q167_13, q167_14, q167_15, q167_16, q167_17, q167_18, q167_21, q167_24, q167_27, q167_28, q167_31, q167_32, q167_33, q167_36, q167_39, q167_40, q167_41, q167_42, q167_43, q167_46, q167_47, q167_48, q167_49, q167_52, q167_55, q167_58, q167_59, q167_60, q167_63, q167_64, q167_65, q167_66, q167_69, q167_72, q167_75, q167_76, q167_77, q167_80, q167_81, q167_82, q167_85, q167_88, q167_91, q167_94, q167_96, q167_98, q167_101, q167_103, q167_104, q167_106, q167_109, q167_111, q167_112, q167_113, q167_116, q167_118, q167_119, q167_122, q167_124, q167_125, q167_126, q167_127, q167_128, q167_129, q167_132, q167_134, q167_135, q167_138, q167_140, q167_141, q167_142, q167_143, q167_144, q167_145, q167_148, q167_150, q167_151, q167_152, q167_153, q167_154, q167_155, q167_156, q167_159, q167_161, q167_162, hm, in03, in052, eq_true hw, eq_false hv, ne0_1, ne0_2, ne0_3, ne0_4, ne0_5, ne0_6, ne0_7, ne0_8, ne0_9, ne0_10, ne0_11, ne0_12, ne1_0, ne1_2, ne1_3, ne1_4, ne1_5, ne1_6, ne1_7, ne1_8, ne1_9, ne1_10, ne1_11, ne1_12, ne2_0, ne2_1, ne2_3, ne2_4, ne2_5, ne2_6, ne2_7, ne2_8, ne2_9, ne2_10, ne2_11, ne2_12, ne3_0, ne3_1, ne3_2, ne3_4, ne3_5, ne3_6, ne3_7, ne3_8, ne3_9, ne3_10, ne3_11, ne3_12, ne4_0, ne4_1, ne4_2, ne4_3, ne4_5, ne4_6, ne4_7, ne4_8, ne4_9, ne4_10, ne4_11, ne4_12, ne5_0, ne5_1, ne5_2, ne5_3, ne5_4, ne5_6, ne5_7, ne5_8, ne5_9, ne5_10, ne5_11, ne5_12, ne6_0, ne6_1, ne6_2, ne6_3, ne6_4, ne6_5, ne6_7, ne6_8, ne6_9, ne6_10, ne6_11, ne6_12, ne7_0, ne7_1, ne7_2, ne7_3, ne7_4, ne7_5, ne7_6, ne7_8, ne7_9, ne7_10, ne7_11, ne7_12, ne8_0, ne8_1, ne8_2, ne8_3, ne8_4, ne8_5, ne8_6, ne8_7, ne8_9, ne8_10, ne8_11, ne8_12, ne9_0, ne9_1, ne9_2, ne9_3, ne9_4, ne9_5, ne9_6, ne9_7, ne9_8, ne9_10, ne9_11, ne9_12, ne10_0, ne10_1, ne10_2, ne10_3, ne10_4, ne10_5, ne10_6, ne10_7, ne10_8, ne10_9, ne10_11, ne10_12, ne11_0, ne11_1, ne11_2, ne11_3, ne11_4, ne11_5, ne11_6, ne11_7, ne11_8, ne11_9, ne11_10, ne11_12, ne12_0, ne12_1, ne12_2, ne12_3, ne12_4, ne12_5, ne12_6, ne12_7, ne12_8, ne12_9, ne12_10, ne12_11, zCall_some, Option.toList, List.cons_append, List.nil_append, zb_0, zb_1, zem, z01, z11, nI_add, ↓reduceIte, not_true_eq_false, not_false_eq_true, n0T, n1F, n11T, true_or, or_true, false_or]
      · rw [if_neg ne2_0, if_neg ne2_1, if_pos rfl]
        by_cases hv : zBtw n 0 3
        · rw [if_pos hv]
          obtain ⟨g, g1, g2, rfl⟩ := zBtw_of (by omega) (by omega) hv
          obtain ⟨a', r1, r2⟩ := pn_end (sc := sc) (d := d) (f := f) (j := j) (w := 2) (n := g) hR h6 (by omega) (by omega)
          refine ⟨a', ?_, r2⟩
          rw [← r1]
          simp only [q167_0, q167_1, q167_2, q167_5, q167_6, q167_9, q167_11, q167_12, q167_13, q167_14, q167_15, q167_16, q167_17, q167_18, q167_21, q167_24, q167_27, q167_28, q167_31, q167_32, q167_33, q167_36, q167_39, q167_40, q167_41, q167_42, q167_43, q167_46, q167_47, q167_48, q167_49, q167_52, q167_55, q167_58, q167_59, q167_60, q167_63, q167_64, q167_65, q167_66, q167_69, q167_72, q167_75, q167_76, q167_77, q167_80, q167_81, q167_82, q167_85, q167_88, q167_91, q167_94, q167_96, q167_98, q167_101, q167_103, q167_104, q167_106, q167_109, q167_111, q167_112, q167_113, q167_116, q167_118, q167_119, q167_122, q167_124, q167_125, q167_126, q167_127, q167_128, q167_129, q167_132, q167_134, q167_135, q167_138, q167_140, q167_141, q167_142, q167_143, q167_144, q167_145, q167_148, q167_150, q167_151, q167_152, q167_153, q167_154, q167_155, q167_156, q167_159, q167_161, q167_162, hm, in03, eq_true hw, eq_true hv, n20, ne0_1, ne0_2, ne0_3, ne0_4, ne0_5, ne0_6, ne0_7, ne0_8, ne0_9, ne0_10, ne0_11, ne0_12, ne1_0, ne1_2, ne1_3, ne1_4, ne1_5, ne1_6, ne1_7, ne1_8, ne1_9, ne1_10, ne1_11, ne1_12, ne2_0, ne2_1, ne2_3, ne2_4, ne2_5, ne2_6, ne2_7, ne2_8, ne2_9, ne2_10, ne2_11, ne2_12, ne3_0, ne3_1, ne3_2, ne3_4, ne3_5, ne3_6, ne3_7, ne3_8, ne3_9, ne3_10, ne3_11, ne3_12, ne4_0, ne4_1, ne4_2, ne4_3, ne4_5, ne4_6, ne4_7, ne4_8, ne4_9, ne4_10, ne4_11, ne4_12, ne5_0, ne5_1, ne5_2, ne5_3, ne5_4, ne5_6, ne5_7, ne5_8, ne5_9, ne5_10, ne5_11, ne5_12, ne6_0, ne6_1, ne6_2, ne6_3, ne6_4, ne6_5, ne6_7, ne6_8, ne6_9, ne6_10, ne6_11, ne6_12, ne7_0, ne7_1, ne7_2, ne7_3, ne7_4, ne7_5, ne7_6, ne7_8, ne7_9, ne7_10, ne7_11, ne7_12, ne8_0, ne8_1, ne8_2, ne8_3, ne8_4, ne8_5, ne8_6, ne8_7, ne8_9, ne8_10, ne8_11, ne8_12, ne9_0, ne9_1, ne9_2, ne9_3, ne9_4, ne9_5, ne9_6, ne9_7, ne9_8, ne9_10, ne9_11, ne9_12, ne10_0, ne10_1, ne10_2, ne10_3, ne10_4, ne10_5, ne10_6, ne10_7, ne10_8, ne10_9, ne10_11, ne10_12, ne11_0, ne11_1, ne11_2, ne11_3, ne11_4, ne11_5, ne11_6, ne11_7, ne11_8, ne11_9, ne11_10, ne11_12, ne12_0, ne12_1, ne12_2, ne12_3, ne12_4, ne12_5, ne12_6, ne12_7, ne12_8, ne12_9, ne12_10, ne12_11, zCall_some, Option.toList, List.cons_append, List.nil_append, zb_0, zb_1, zem, z01, z11, nI_add, ↓reduceIte, not_true_eq_false, not_false_eq_true, n0T, n1F, n11T, true_or, or_true, false_or]
        · rw [if_neg hv]
          refine ⟨a, ?_, hR, fun _ _ => rfl⟩
          simp only [q167_0, q167_1, q167_2, q167_5, q167_6, q167_9, q167_11, q167_12, q167_13, q167_14, q167_15, q167_16, q167_17, q167_18, q167_21, q167_24, q167_27, q167_28, q167_31, q167_32, q167_33, q167_36, q167_39, q167_40, q167_41, q167_42, q167_43, q167_46, q167_47, q167_48, q167_49, q167_52, q167_55, q167_58, q167_59, q167_60, q167_63, q167_64, q167_65, q167_66, q167_69, q167_72, q167_75, q167_76, q167_77, q167_80, q167_81, q167_82, q167_85, q167_88, q167_91, q167_94, q167_96, q167_98, q167_101, q167_103, q167_104, q167_106, q167_109, q167_111, q167_112, q167_113, q167_116, q167_118, q167_119, q167_122, q167_124, q167_125, q167_126, q167_127, q167_128, q167_129, q167_132, q167_134, q167_135, q167_138, q167_140, q167_141, q167_142, q167_143, q167_144, q167_145, q167_148, q167_150, q167_151, q167_152, q167_153, q167_154, q167_155, q167_156, q167_159, q167_161, q167_162, hm, in03, eq_true hw, eq_false hv, n20, ne0_1, ne0_2, ne0_3, ne0_4, ne0_5, ne0_6, ne0_7, ne0_8, ne0_9, ne0_10, ne0_11, ne0_12, ne1_0, ne1_2, ne1_3, ne1_4, ne1_5, ne1_6, ne1_7, ne1_8, ne1_9, ne1_10, ne1_11, ne1_12, ne2_0, ne2_1, ne2_3, ne2_4, ne2_5, ne2_6, ne2_7, ne2_8, ne2_9, ne2_10, ne2_11, ne2_12, ne3_0, ne3_1, ne3_2, ne3_4, ne3_5, ne3_6, ne3_7, ne3_8, ne3_9, ne3_10, ne3_11, ne3_12, ne4_0, ne4_1, ne4_2, ne4_3, ne4_5, ne4_6, ne4_7, ne4_8, ne4_9, ne4_10, ne4_11, ne4_12, ne5_0, ne5_1, ne5_2, ne5_3, ne5_4, ne5_6, ne5_7, ne5_8, ne5_9, ne5_10, ne5_11, ne5_12, ne6_0, ne6_1, ne6_2, ne6_3, ne6_4, ne6_5, ne6_7, ne6_8, ne6_9, ne6_10, ne6_11, ne6_12, ne7_0, ne7_1, ne7_2, ne7_3, ne7_4, ne7_5, ne7_6, ne7_8, ne7_9, ne7_10, ne7_11, ne7_12, ne8_0, ne8_1, ne8_2, ne8_3, ne8_4, ne8_5, ne8_6, ne8_7, ne8_9, ne8_10, ne8_11, ne8_12, ne9_0, ne9_1, ne9_2, ne9_3, ne9_4, ne9_5, ne9_6, ne9_7, ne9_8, ne9_10, ne9_11, ne9_12, ne10_0, ne10_1, ne10_2, ne10_3, ne10_4, ne10_5, ne10_6, ne10_7, ne10_8, ne10_9, ne10_11, ne10_12, ne11_0, ne11_1, ne11_2, ne11_3, ne11_4, ne11_5, ne11_6, ne11_7, ne11_8, ne11_9, ne11_10, ne11_12, ne12_0, ne12_1, ne12_2, ne12_3, ne12_4, ne12_5, ne12_6, ne12_7, ne12_8, ne12_9, ne12_10, ne12_11, zCall_some, Option.toList, List.cons_append, List.nil_append, zb_0, zb_1, zem, z01, z11, nI_add, ↓reduceIte, not_true_eq_false, not_false_eq_true, n0T, n1F, n11T, true_or, or_true, false_or]
      · rw [if_neg ne3_0, if_neg ne3_1, if_neg ne3_2]
        by_cases hv : zBtw n 8 96
        · rw [if_pos hv]
          obtain ⟨g, g1, g2, rfl⟩ := zBtw_of (by omega) (by omega) hv
          obtain ⟨a', r1, r2⟩ := pn_end (sc := sc) (d := d) (f := f) (j := j) (w := 3) (n := g) hR h6 (by omega) (by omega)
          refine ⟨a', ?_, r2⟩
          rw [← r1]
          simp only [q167_0, q167_1, q167_2, q167_5, q167_6, q167_9, q167_11, q167_12, q167_13, q167_14, q167_15, q167_16, q167_17, q167_18, q167_21, q167_24, q167_27, q167_28, q167_31, q167_32, q167_33, q167_36, q167_39, q167_40, q167_41, q167_42, q167_43, q167_46, q167_47, q167_48, q167_49, q167_52, q167_55, q167_58, q167_59, q167_60, q167_63, q167_64, q167_65, q167_66, q167_69, q167_72, q167_75, q167_76, q167_77, q167_80, q167_81, q167_82, q167_85, q167_88, q167_91, q167_94, q167_96, q167_98, q167_101, q167_103, q167_104, q167_106, q167_109, q167_111, q167_112, q167_113, q167_116, q167_118, q167_119, q167_122, q167_124, q167_125, q167_126, q167_127, q167_128, q167_129, q167_132, q167_134, q167_135, q167_138, q167_140, q167_141, q167_142, q167_143, q167_144, q167_145, q167_148, q167_150, q167_151, q167_152, q167_153, q167_154, q167_155, q167_156, q167_159, q167_161, q167_162, hm, in03, in896, eq_true hw, eq_true hv, n30, ne0_1, ne0_2, ne0_3, ne0_4, ne0_5, ne0_6, ne0_7, ne0_8, ne0_9, ne0_10, ne0_11, ne0_12, ne1_0, ne1_2, ne1_3, ne1_4, ne1_5, ne1_6, ne1_7, ne1_8, ne1_9, ne1_10, ne1_11, ne1_12, ne2_0, ne2_1, ne2_3, ne2_4, ne2_5, ne2_6, ne2_7, ne2_8, ne2_9, ne2_10, ne2_11, ne2_12, ne3_0, ne3_1, ne3_2, ne3_4, ne3_5, ne3_6, ne3_7, ne3_8, ne3_9, ne3_10, ne3_11, ne3_12, ne4_0, ne4_1, ne4_2, ne4_3, ne4_5, ne4_6, ne4_7, ne4_8, ne4_9, ne4_10, ne4_11, ne4_12, ne5_0, ne5_1, ne5_2, ne5_3, ne5_4, ne5_6, ne5_7, ne5_8, ne5_9, ne5_10, ne5_11, ne5_12, ne6_0, ne6_1, ne6_2, ne6_3, ne6_4, ne6_5, ne6_7, ne6_8, ne6_9, ne6_10, ne6_11, ne6_12, ne7_0, ne7_1, ne7_2, ne7_3, ne7_4, ne7_5, ne7_6, ne7_8, ne7_9, ne7_10, ne7_11, ne7_12, ne8_0, ne8_1, ne8_2, ne8_3, ne8_4, ne8_5, ne8_6, ne8_7, ne8_9, ne8_10, ne8_11, ne8_12, ne9_0, ne9_1, ne9_2, ne9_3, ne9_4, ne9_5, ne9_6, ne9_7, ne9_8, ne9_10, ne9_11, ne9_12, ne10_0, ne10_1, ne10_2, ne10_3, ne10_4, ne10_5, ne10_6, ne10_7, ne10_8, ne10_9, ne10_11, ne10_12, ne11_0, ne11_1, ne11_2, ne11_3, ne11_4, ne11_5, ne11_6, ne11_7, ne11_8, ne11_9, ne11_10, ne11_12, ne12_0, ne12_1, ne12_2, ne12_3, ne12_4, ne12_5, ne12_6, ne12_7, ne12_8, ne12_9, ne12_10, ne12_11, zCall_some, Option.toList, List.cons_append, List.nil_append, zb_0, zb_1, zem, z01, z11, nI_add, ↓reduceIte, not_true_eq_false, not_false_eq_true, n0T, n1F, n11T, true_or, or_true, false_or]
        · rw [if_neg hv]
          refine ⟨a, ?_, hR, fun _ _ => rfl⟩
          simp only [q167_0, q167_1, q167_2, q167_5, q167_6, q167_9, q167_11, q167_12, q167_13, q167_14, q167_15, q167_16, q167_17, q167_18, q167_21, q167_24, q167_27, q167_28, q167_31, q167_32, q167_33, q167_36, q167_39, q167_40, q167_41, q167_42, q167_43, q167_46, q167_47, q167_48, q167_49, q167_52, q167_55, q167_58, q167_59, q167_60, q167_63, q167_64, q167_65, q167_66, q167_69, q167_72, q167_75, q167_76, q167_77, q167_80, q167_81, q167_82, q167_85, q167_88, q167_91, q167_94, q167_96, q167_98, q167_101, q167_103, q167_104, q167_106, q167_109, q167_111, q167_112, q167_113, q167_116, q167_118, q167_119, q167_122, q167_124, q167_125, q167_126, q167_127, q167_128, q167_129, q167_132, q167_134, q167_135, q167_138, q167_140, q167_141, q167_142, q167_143, q167_144, q167_145, q167_148, q167_150, q167_151, q167_152, q167_153, q167_154, q167_155, q167_156, q167_159, q167_161, q167_162, hm, in03, in896, eq_true hw, eq_false hv, n30, ne0_1, ne0_2, ne0_3, ne0_4, ne0_5, ne0_6, ne0_7, ne0_8, ne0_9, ne0_10, ne0_11, ne0_12, ne1_0, ne1_2, ne1_3, ne1_4, ne1_5, ne1_6, ne1_7, ne1_8, ne1_9, ne1_10, ne1_11, ne1_12, ne2_0, ne2_1, ne2_3, ne2_4, ne2_5, ne2_6, ne2_7, ne2_8, ne2_9, ne2_10, ne2_11, ne2_12, ne3_0, ne3_1, ne3_2, ne3_4, ne3_5, ne3_6, ne3_7, ne3_8, ne3_9, ne3_10, ne3_11, ne3_12, ne4_0, ne4_1, ne4_2, ne4_3, ne4_5, ne4_6, ne4_7, ne4_8, ne4_9, ne4_10, ne4_11, ne4_12, ne5_0, ne5_1, ne5_2, ne5_3, ne5_4, ne5_6, ne5_7, ne5_8, ne5_9, ne5_10, ne5_11, ne5_12, ne6_0, ne6_1, ne6_2, ne6_3, ne6_4, ne6_5, ne6_7, ne6_8, ne6_9, ne6_10, ne6_11, ne6_12, ne7_0, ne7_1, ne7_2, ne7_3, ne7_4, ne7_5, ne7_6, ne7_8, ne7_9, ne7_10, ne7_11, ne7_12, ne8_0, ne8_1, ne8_2, ne8_3, ne8_4, ne8_5, ne8_6, ne8_7, ne8_9, ne8_10, ne8_11, ne8_12, ne9_0, ne9_1, ne9_2, ne9_3, ne9_4, ne9_5, ne9_6, ne9_7, ne9_8, ne9_10, ne9_11, ne9_12, ne10_0, ne10_1, ne10_2, ne10_3, ne10_4, ne10_5, ne10_6, ne10_7, ne10_8, ne10_9, ne10_11, ne10_12, ne11_0, ne11_1, ne11_2, ne11_3, ne11_4, ne11_5, ne11_6, ne11_7, ne11_8, ne11_9, ne11_10, ne11_12, ne12_0, ne12_1, ne12_2, ne12_3, ne12_4, ne12_5, ne12_6, ne12_7, ne12_8, ne12_9, ne12_10, ne12_11, zCall_some, Option.toList, List.cons_append, List.nil_append, zb_0, zb_1, zem, z01, z11, nI_add, ↓reduceIte, not_true_eq_false, not_false_eq_true, n0T, n1F, n11T, true_or, or_true, false_or]
    · rw [if_neg hw]
      refine ⟨a, ?_, hR, fun _ _ => rfl⟩
      simp only [q167_0, q167_1, q167_2, q167_5, q167_6, q167_9, q167_11, q167_12, q167_13, q167_14, q167_15, q167_16, q167_17, q167_18, q167_21, q167_24, q167_27, q167_28, q167_31, q167_32, q167_33, q167_36, q167_39, q167_40, q167_41, q167_42, q167_43, q167_46, q167_47, q167_48, q167_49, q167_52, q167_55, q167_58, q167_59, q167_60, q167_63, q167_64, q167_65, q167_66, q167_69, q167_72, q167_75, q167_76, q167_77, q167_80, q167_81, q167_82, q167_85, q167_88, q167_91, q167_94, q167_96, q167_98, q167_101, q167_103, q167_104, q167_106, q167_109, q167_111, q167_112, q167_113, q167_116, q167_118, q167_119, q167_122, q167_124, q167_125, q167_126, q167_127, q167_128, q167_129, q167_132, q167_134, q167_135, q167_138, q167_140, q167_141, q167_142, q167_143, q167_144, q167_145, q167_148, q167_150, q167_151, q167_152, q167_153, q167_154, q167_155, q167_156, q167_159, q167_161, q167_162, hm, in03, eq_false hw, zCall_some, Option.toList, List.cons_append, List.nil_append, zb_0, zb_1, zem, z01, z11, nI_add, ↓reduceIte, not_true_eq_false, not_false_eq_true, n0T, n1F, n11T, true_or, or_true, false_or]
/-- the reference's image -/
def MK (kb : Bool) (τ : Nat → Nat) (f : zF) (a : zA) : Prop := f 85 4 = nI (if kb = true then 1 else 0) ∧ (kb = true → ∀ i, i < 140 → a 87 (nI i) = nI (τ i))
theorem y_image {sc : Int32 × (Int32 → Int32)} {f : zF} {a : zA} {j : zJ} {d : Nat} {σ : Nat → Nat} (hR : MR σ a) : ∃ a' : zA, cf sc (d + 2) 173 [.ref 85] f a j = some (some (.int (nI (σ 0))), zuF f 85 4 (nI 1), a', j) ∧ MR σ a' ∧ (∀ i, i < 140 → a' 87 (nI i) = nI (σ i)) ∧ ∀ k, k ≠ 87 → a' k = a k := by
  obtain ⟨a', r1, r2, r3⟩ := m_copies (sc := sc) (d := d) (f := f) (a := a) (j := j) (q := 86) (t := 87) ⟨rfl, rfl⟩ ⟨rfl, rfl⟩ (by omega)
  have ix : zIx 21 86 (nI 0) := ix86 (by omega)
  have hR' : MR σ a' := hR.of (r3 86 (by omega))
  have e0 := hR' 0 (by omega)
  refine ⟨a', ?_, hR', fun i hi => by rw [r2 i hi]; exact hR i hi, r3⟩
  rw [en173]
  simp only [q173_0, q173_1, q173_4, q173_5, q173_8, q173_11, q173_12, q173_13, q173_16, q173_17, q173_20, q173_21, q173_22, r1, ix, e0, zCall_some, Option.toList, List.cons_append, List.nil_append, zb_0, zb_1, zem, z01, z11, nI_add, ↓reduceIte, not_true_eq_false, not_false_eq_true, n0T, n1F, n11T, true_or, or_true, false_or]
theorem y_undo {sc : Int32 × (Int32 → Int32)} {f : zF} {a : zA} {j : zJ} {d : Nat} {kb : Bool} {σ τ : Nat → Nat} (hR : MR σ a) (hK : MK kb τ f a) : ∃ a' : zA, cf sc (d + 2) 174 [.ref 85] f a j = some (some (.int (udS kb σ τ).1), f, a', j) ∧ MR (udS kb σ τ).2 a' ∧ ∀ k, k ≠ 86 → a' k = a k := by
  obtain ⟨k1, k2⟩ := hK
  rw [en174]
  unfold udS
  by_cases hb : kb = true
  · rw [if_pos hb]
    rw [if_pos hb] at k1
    obtain ⟨a', r1, r2, r3⟩ := m_copies (sc := sc) (d := d) (f := f) (a := a) (j := j) (q := 87) (t := 86) ⟨rfl, rfl⟩ ⟨rfl, rfl⟩ (by omega)
    have ix : zIx 21 86 (nI 0) := ix86 (by omega)
    have hR' : MR τ a' := fun i hi => by rw [r2 i hi]; exact k2 hb i hi
    have e0 := hR' 0 (by omega)
    refine ⟨a', ?_, hR', r3⟩
    simp only [q174_0, q174_1, q174_4, q174_7, q174_9, q174_10, q174_11, q174_14, q174_15, q174_18, q174_21, q174_22, q174_25, q174_26, q174_27, k1, r1, ix, e0, zCall_some, Option.toList, List.cons_append, List.nil_append, zb_0, zb_1, zem, z01, z11, nI_add, ↓reduceIte, not_true_eq_false, not_false_eq_true, n0T, n1F, n11T, true_or, or_true, false_or]
  · rw [if_neg hb]
    rw [if_neg hb] at k1
    refine ⟨a, ?_, hR, fun _ _ => rfl⟩
    simp only [q174_0, q174_1, q174_4, q174_7, q174_9, q174_10, q174_11, q174_14, q174_15, q174_18, q174_21, q174_22, q174_25, q174_26, q174_27, k1, zCall_some, Option.toList, List.cons_append, List.nil_append, zb_0, zb_1, zem, z01, z11, nI_add, ↓reduceIte, not_true_eq_false, not_false_eq_true, n0T, n1F, n11T, true_or, or_true, false_or]
theorem y_count {sc : Int32 × (Int32 → Int32)} {f : zF} {a : zA} {j : zJ} {d tn : Nat} {σ : Nat → Nat} {w : Int32} (hR : MR σ a) (hT : f 85 18 = nI tn) : cf sc (d + 1) 175 [.ref 85, .int w] f a j = some (some (.int (cnS σ tn w)), f, a, j) := by
  have i0 : zIx 21 86 (nI 0) := ix86 (by omega)
  have i5 : zIx 21 86 (nI 5) := ix86 (by omega)
  have i6 : zIx 21 86 (nI 6) := ix86 (by omega)
  have i7 : zIx 21 86 (nI 7) := ix86 (by omega)
  have e0 := hR 0 (by omega)
  have e5 := hR 5 (by omega)
  have e6 := hR 6 (by omega)
  have e7 := hR 7 (by omega)
  rw [en175]
  unfold cnS
  simp only [q175_0, q175_1, q175_36, q175_37, q175_40, q175_41, q175_42, q175_43, q175_44, q175_47, q175_48, q175_49, q175_50, q175_51, q175_54, q175_56, q175_57, q175_58, q175_59, q175_62, q175_64, q175_65, q175_66, q175_67, q175_70, q175_71, q175_73, i0, i5, i6, i7, e0, e5, e6, e7, hT, zCall_some, Option.toList, List.cons_append, List.nil_append, zb_0, zb_1, zem, z01, z11, nI_add, ↓reduceIte, not_true_eq_false, not_false_eq_true, n0T, n1F, n11T, true_or, or_true, false_or]
  split
  · rfl
  · split
    · rfl
    · split
      · rfl
      · split
        · rfl
        · split
          · rfl
          · rfl
/-- the reference's text -/
def MX (tx : Nat → Nat) (tn : Nat) (f : zF) (a : zA) : Prop := f 85 18 = nI tn ∧ ∀ i, i < tn → a 98 (nI i) = nI (tx i)
theorem y_feed {sc : Int32 × (Int32 → Int32)} {f : zF} {a : zA} {j : zJ} {d tn : Nat} {tx : Nat → Nat} {v : Int32} (hT : MX tx tn f a) (h100 : tn ≤ 100) : ∃ (f' : zF) (a' : zA), cf sc (d + 2) 138 [.ref 85, .int v] f a j = some (some (.int (fdS tx tn v).1), f', a', j) ∧ MX (fdS tx tn v).2.1 (fdS tx tn v).2.2 f' a' ∧ (∀ k, k ≠ 85 → f' k = f k) ∧ (∀ i, i ≠ 18 → f' 85 i = f 85 i) ∧ ∀ k, k ≠ 98 → a' k = a k := by
  obtain ⟨t1, t2⟩ := hT
  rw [en138]
  unfold fdS
  by_cases hv : zBtw v 0 127
  · rw [if_pos hv]
    have q1 : (nI tn = nI 100) = (tn = 100) := propext (nI_eq (by omega) (by omega))
    by_cases h : tn < 100
    · rw [if_pos h]
      obtain ⟨q, q1', q2, rfl⟩ := zBtw_of (by omega) (by omega) hv
      rw [nI_clamp (n := q) (by omega)]
      have n1 : ¬ tn = 100 := by omega
      have ix : zIx 21 98 (nI tn) := ix98 h
      refine ⟨zuF f 85 18 (nI (tn + 1)), zuA a 98 (nI tn) (nI q), ?_, ⟨zuF_eq, fun i hi => ?_⟩, fun k hk => zuF_nk hk, fun i hi => zuF_ni hi, fun k hk => zuA_nk hk⟩
      · simp only [q138_0, q138_1, q138_2, q138_3, q138_6, q138_9, q138_12, q138_14, q138_15, q138_16, q138_19, q138_21, q138_24, q138_26, q138_27, q138_28, q138_31, q138_32, q138_35, q138_36, q138_37, q138_38, q138_39, q138_42, q138_43, q138_44, q138_47, q138_48, q138_51, in0127, eq_true hv, t1, q1, n1, ix, zuF_eq, zCall_some, Option.toList, List.cons_append, List.nil_append, zb_0, zb_1, zem, z01, z11, nI_add, ↓reduceIte, not_true_eq_false, not_false_eq_true, n0T, n1F, n11T, true_or, or_true, false_or]
      · dsimp only at hi ⊢
        by_cases e : i = tn
        · rw [e, zup_eq, zuA_eq]
        · rw [zup_ne e, zuA_ni (nI_ne (by omega) (by omega) e)]; exact t2 i (by omega)
    · rw [if_neg h]
      have n1 : tn = 100 := by omega
      refine ⟨f, a, ?_, ⟨t1, t2⟩, fun _ _ => rfl, fun _ _ => rfl, fun _ _ => rfl⟩
      simp only [q138_0, q138_1, q138_2, q138_3, q138_6, q138_9, q138_12, q138_14, q138_15, q138_16, q138_19, q138_21, q138_24, q138_26, q138_27, q138_28, q138_31, q138_32, q138_35, q138_36, q138_37, q138_38, q138_39, q138_42, q138_43, q138_44, q138_47, q138_48, q138_51, in0127, eq_true hv, t1, q1, n1, zCall_some, Option.toList, List.cons_append, List.nil_append, zb_0, zb_1, zem, z01, z11, nI_add, ↓reduceIte, not_true_eq_false, not_false_eq_true, n0T, n1F, n11T, true_or, or_true, false_or]
  · rw [if_neg hv]
    refine ⟨f, a, ?_, ⟨t1, t2⟩, fun _ _ => rfl, fun _ _ => rfl, fun _ _ => rfl⟩
    simp only [q138_0, q138_1, q138_2, q138_3, q138_6, q138_9, q138_12, q138_14, q138_15, q138_16, q138_19, q138_21, q138_24, q138_26, q138_27, q138_28, q138_31, q138_32, q138_35, q138_36, q138_37, q138_38, q138_39, q138_42, q138_43, q138_44, q138_47, q138_48, q138_51, in0127, eq_false hv, zCall_some, Option.toList, List.cons_append, List.nil_append, zb_0, zb_1, zem, z01, z11, nI_add, ↓reduceIte, not_true_eq_false, not_false_eq_true, n0T, n1F, n11T, true_or, or_true, false_or]
