/-! ===== the reference: lines, standing, fills, takeTurns ===== -/
theorem ml_in {sc : Int32 × (Int32 → Int32)} {F : zCF} {f : zF} {j : zJ} {r : Nat} {σ : Nat → Nat} (hV : VR σ) (hr : r < 4) : ∀ (m g : Nat) (a : zA), g + m = σ 0 → MR σ a → zLst a 89 (lnI σ r g (lnO σ r)) →
    ∃ (x : Int32) (a' : zA), rn sc F 120 11 [.ref 85, .int (nI (lnI σ r g (lnO σ r)).length), .int (nI r), .int (nI g)] [] f a j = rn sc F 120 53 [.ref 85, .int (nI (lnI σ r (σ 0) (lnO σ r)).length), .int (nI r), .int x] [] f a' j ∧ zLst a' 89 (lnI σ r (σ 0) (lnO σ r)) ∧ ∀ k, k ≠ 89 → a' k = a k := by
  have hn := hV.1
  intro m
  induction m with
  | zero =>
    intro g a hg hR hL
    have hg : g = σ 0 := by omega
    subst hg
    have c1 : nI (σ 0) ≤ nI (σ 0) := nI_le (Nat.le_refl _) (by omega)
    have ix0 : zIx 21 86 (nI 0) := ix86 (by omega)
    have e0 := hR 0 (by omega)
    refine ⟨nI (σ 0), a, ?_, hL, fun _ _ => rfl⟩
    simp only [q120_11, q120_12, q120_13, q120_16, q120_17, q120_18, ix0, e0, c1, zCall_some, Option.toList, List.cons_append, List.nil_append, zb_0, zb_1, zem, z01, z11, nI_add, ↓reduceIte, not_true_eq_false, not_false_eq_true, n0T, n1F, n11T, true_or, or_true, false_or]
  | succ m ih =>
    intro g a hg hR hL
    have hgn : g < σ 0 := by omega
    have ix0 : zIx 21 86 (nI 0) := ix86 (by omega)
    have e0 := hR 0 (by omega)
    have ix16 : zIx 21 86 (nI (16 + g)) := ix86 (by omega)
    have e16 := hR (16 + g) (by omega)
    have c1 : ¬ nI (σ 0) ≤ nI g := nI_ge hgn (by omega)
    have h4 := (hV.2.2.1 g hgn).1
    have q1 : (nI (σ (16 + g)) = nI r) = (σ (16 + g) = r) := propext (nI_eq (by omega) (by omega))
    rw [q120_11]
    by_cases he : σ (16 + g) = r
    · have hroom := ln_room hgn he
      have ix9 : zIx 21 89 (nI (lnI σ r g (lnO σ r)).length) := ix89 (by omega)
      have e1 : lnI σ r (g + 1) (lnO σ r) = lnI σ r g (lnO σ r) ++ [g] := by
        show (if σ (16 + g) = r then _ else _) = _
        rw [if_pos he]
      have e2 : (lnI σ r (g + 1) (lnO σ r)).length = (lnI σ r g (lnO σ r)).length + 1 := by rw [e1, List.length_append]; rfl
      obtain ⟨x, a', h1, h2, h3⟩ := ih (g + 1) (zuA a 89 (nI (lnI σ r g (lnO σ r)).length) (nI g)) (by omega) (hR.of (zuA_nk (by omega))) (by rw [e1]; exact zLst_push (by omega) hL g)
      refine ⟨x, a', ?_, h2, fun k hk => by rw [h3 k hk, zuA_nk hk]⟩
      rw [← h1, e2]
      simp only [q120_0, q120_1, q120_2, q120_3, q120_4, q120_5, q120_6, q120_9, q120_10, q120_12, q120_13, q120_16, q120_17, q120_18, q120_21, q120_22, q120_25, q120_27, q120_28, q120_29, q120_30, q120_31, q120_34, q120_37, q120_38, q120_41, q120_42, q120_43, q120_44, q120_47, q120_50, q120_53, q120_56, q120_59, ix0, e0, c1, ix16, e16, q1, eq_true he, ix9, zCall_some, Option.toList, List.cons_append, List.nil_append, zb_0, zb_1, zem, z01, z11, nI_add, ↓reduceIte, not_true_eq_false, not_false_eq_true, n0T, n1F, n11T, true_or, or_true, false_or]
    · have e1 : lnI σ r (g + 1) (lnO σ r) = lnI σ r g (lnO σ r) := by
        show (if σ (16 + g) = r then _ else _) = _
        rw [if_neg he]
      obtain ⟨x, a', h1, h2, h3⟩ := ih (g + 1) a (by omega) hR (by rw [e1]; exact hL)
      refine ⟨x, a', ?_, h2, h3⟩
      rw [← h1, e1]
      simp only [q120_0, q120_1, q120_2, q120_3, q120_4, q120_5, q120_6, q120_9, q120_10, q120_12, q120_13, q120_16, q120_17, q120_18, q120_21, q120_22, q120_25, q120_27, q120_28, q120_29, q120_30, q120_31, q120_34, q120_37, q120_38, q120_41, q120_42, q120_43, q120_44, q120_47, q120_50, q120_53, q120_56, q120_59, ix0, e0, c1, ix16, e16, q1, eq_false he, zCall_some, Option.toList, List.cons_append, List.nil_append, zb_0, zb_1, zem, z01, z11, nI_add, ↓reduceIte, not_true_eq_false, not_false_eq_true, n0T, n1F, n11T, true_or, or_true, false_or]
theorem m_lines {sc : Int32 × (Int32 → Int32)} {f : zF} {a : zA} {j : zJ} {d : Nat} {σ : Nat → Nat} (hR : MR σ a) (hV : VR σ) : ∃ a' : zA, cf sc (d + 1) 120 [.ref 85] f a j = some (none, f, a', j) ∧ zLst a' 89 (lnO σ 4) ∧ ∀ k, k ≠ 89 → a' k = a k := by
  rw [en120]
  have key := zLoopP (n := 4) (g := fun s : (Nat × Value × zA) => rn sc (cf sc d) 120 4 [.ref 85, .int (nI (lnO σ s.1).length), .int (nI s.1), s.2.1] [] f s.2.2 j) (P := fun i s => s.1 = i ∧ zLst s.2.2 89 (lnO σ i) ∧ ∀ k, k ≠ 89 → s.2.2 k = a k) (by
    intro i s hi hP
    obtain ⟨r, v, a1⟩ := s
    obtain ⟨rfl, hL, hk⟩ := hP
    dsimp only at hL hk
    obtain ⟨x, a', h1, h2, h3⟩ := ml_in (sc := sc) (F := cf sc d) (f := f) (j := j) hV hi (σ 0) 0 a1 (by omega) (hR.of (hk 86 (by omega))) hL
    refine ⟨(r + 1, .int x, a'), ⟨rfl, h2, fun k hk9 => (h3 k hk9).trans (hk k hk9)⟩, ?_⟩
    have c1 : ¬ nI 4 ≤ nI r := nI_ge hi (by omega)
    dsimp only
    rw [q120_4]
    simp only [q120_5, q120_6, q120_9, q120_10, c1, zCall_some, Option.toList, List.cons_append, List.nil_append, zb_0, zb_1, zem, z01, z11, nI_add, ↓reduceIte, not_true_eq_false, not_false_eq_true, n0T, n1F, n11T, true_or, or_true, false_or]
    refine Eq.trans h1 ?_
    rw [q120_53, q120_56, nI_add]
    rfl) (0, .null, a) ⟨rfl, zLst_nil, fun _ _ => rfl⟩
  obtain ⟨⟨r, v, a'⟩, ⟨rfl, hL, hk⟩, e⟩ := key
  refine ⟨a', ?_, hL, hk⟩
  have c1 : nI 4 ≤ nI 4 := nI_le (Nat.le_refl _) (by omega)
  rw [q120_0, q120_1, q120_2, q120_3]
  refine Eq.trans e ?_
  simp only [q120_4, q120_5, q120_6, q120_59, c1, zCall_some, Option.toList, List.cons_append, List.nil_append, zb_0, zb_1, zem, z01, z11, nI_add, ↓reduceIte, not_true_eq_false, not_false_eq_true, n0T, n1F, n11T, true_or, or_true, false_or]
theorem m_standing {sc : Int32 × (Int32 → Int32)} {f : zF} {a : zA} {j : zJ} {d k w : Nat} {σ : Nat → Nat} (hR : MR σ a) (hV : VR σ) (hk : k < σ 0) (hw : w ≤ 1010) (hr : σ 2 ≤ 3) (hL : zLst a 89 (lnO σ 4)) : cf sc (d + 1) 121 [.ref 85, .int (nI k), .int (nI w)] f a j = some (some (.int (nI (lnA σ (zpos σ w k)))), f, a, j) := by
  have hn := hV.1
  have ix0 : zIx 21 86 (nI 0) := ix86 (by omega)
  have e0 := hR 0 (by omega)
  have ix2 : zIx 21 86 (nI 2) := ix86 (by omega)
  have e2 := hR 2 (by omega)
  have hp : zpos σ w k < σ 0 := zpos_lt hk
  have ixp : zIx 21 89 (nI (zpos σ w k)) := ix89 (by omega)
  have ep : a 89 (nI (zpos σ w k)) = nI (lnA σ (zpos σ w k)) := hL _ (by rw [ln_len hV]; exact hp)
  have hn0 : nI (σ 0) ≠ 0 := nI_ne0 (by omega) (by omega)
  have h20 : nI 2 ≠ 0 := by decide
  rw [en121]
  rcases (show σ 2 = 0 ∨ σ 2 = 1 ∨ σ 2 = 2 ∨ σ 2 = 3 by omega) with h | h | h | h
  · have hz : zpos σ w k = k := by unfold zpos; rw [h]; simp
    rw [hz] at ixp ep ⊢
    rw [h] at e2
    simp only [q121_0, q121_1, q121_4, q121_5, q121_6, q121_7, q121_8, q121_11, q121_12, q121_13, q121_14, q121_17, q121_18, q121_21, q121_22, q121_23, q121_24, q121_25, q121_26, q121_27, q121_28, q121_29, q121_32, q121_33, q121_34, q121_35, q121_38, q121_39, q121_40, q121_41, q121_44, q121_45, q121_48, q121_49, q121_50, q121_53, q121_54, q121_57, q121_58, q121_59, q121_60, q121_61, q121_62, q121_63, q121_64, q121_65, q121_68, q121_69, q121_70, q121_71, q121_74, q121_75, q121_78, q121_79, q121_80, q121_81, q121_82, q121_83, q121_84, q121_85, q121_86, q121_87, q121_88, q121_91, q121_92, q121_95, q121_96, q121_97, ix0, e0, ix2, e2, ixp, ep, ne0_1, ne0_2, ne0_3, ne0_4, ne0_5, ne0_6, ne0_7, ne0_8, ne0_9, ne0_10, ne0_11, ne0_12, ne1_0, ne1_2, ne1_3, ne1_4, ne1_5, ne1_6, ne1_7, ne1_8, ne1_9, ne1_10, ne1_11, ne1_12, ne2_0, ne2_1, ne2_3, ne2_4, ne2_5, ne2_6, ne2_7, ne2_8, ne2_9, ne2_10, ne2_11, ne2_12, ne3_0, ne3_1, ne3_2, ne3_4, ne3_5, ne3_6, ne3_7, ne3_8, ne3_9, ne3_10, ne3_11, ne3_12, ne4_0, ne4_1, ne4_2, ne4_3, ne4_5, ne4_6, ne4_7, ne4_8, ne4_9, ne4_10, ne4_11, ne4_12, ne5_0, ne5_1, ne5_2, ne5_3, ne5_4, ne5_6, ne5_7, ne5_8, ne5_9, ne5_10, ne5_11, ne5_12, ne6_0, ne6_1, ne6_2, ne6_3, ne6_4, ne6_5, ne6_7, ne6_8, ne6_9, ne6_10, ne6_11, ne6_12, ne7_0, ne7_1, ne7_2, ne7_3, ne7_4, ne7_5, ne7_6, ne7_8, ne7_9, ne7_10, ne7_11, ne7_12, ne8_0, ne8_1, ne8_2, ne8_3, ne8_4, ne8_5, ne8_6, ne8_7, ne8_9, ne8_10, ne8_11, ne8_12, ne9_0, ne9_1, ne9_2, ne9_3, ne9_4, ne9_5, ne9_6, ne9_7, ne9_8, ne9_10, ne9_11, ne9_12, ne10_0, ne10_1, ne10_2, ne10_3, ne10_4, ne10_5, ne10_6, ne10_7, ne10_8, ne10_9, ne10_11, ne10_12, ne11_0, ne11_1, ne11_2, ne11_3, ne11_4, ne11_5, ne11_6, ne11_7, ne11_8, ne11_9, ne11_10, ne11_12, ne12_0, ne12_1, ne12_2, ne12_3, ne12_4, ne12_5, ne12_6, ne12_7, ne12_8, ne12_9, ne12_10, ne12_11, zCall_some, Option.toList, List.cons_append, List.nil_append, zb_0, zb_1, zem, z01, z11, nI_add, ↓reduceIte, not_true_eq_false, not_false_eq_true, n0T, n1F, n11T, true_or, or_true, false_or]
  · have hz : zpos σ w k = (k + w) % σ 0 := by unfold zpos; rw [h]; simp
    rw [hz] at ixp ep ⊢
    rw [h] at e2
    have er : nI (k + w) - nI (k + w) / nI (σ 0) * nI (σ 0) = nI ((k + w) % σ 0) := pk_rem (by omega) (by omega) (by omega)
    simp only [q121_0, q121_1, q121_4, q121_5, q121_6, q121_7, q121_8, q121_11, q121_12, q121_13, q121_14, q121_17, q121_18, q121_21, q121_22, q121_23, q121_24, q121_25, q121_26, q121_27, q121_28, q121_29, q121_32, q121_33, q121_34, q121_35, q121_38, q121_39, q121_40, q121_41, q121_44, q121_45, q121_48, q121_49, q121_50, q121_53, q121_54, q121_57, q121_58, q121_59, q121_60, q121_61, q121_62, q121_63, q121_64, q121_65, q121_68, q121_69, q121_70, q121_71, q121_74, q121_75, q121_78, q121_79, q121_80, q121_81, q121_82, q121_83, q121_84, q121_85, q121_86, q121_87, q121_88, q121_91, q121_92, q121_95, q121_96, q121_97, ix0, e0, ix2, e2, hn0, ne_eq, er, ixp, ep, ne0_1, ne0_2, ne0_3, ne0_4, ne0_5, ne0_6, ne0_7, ne0_8, ne0_9, ne0_10, ne0_11, ne0_12, ne1_0, ne1_2, ne1_3, ne1_4, ne1_5, ne1_6, ne1_7, ne1_8, ne1_9, ne1_10, ne1_11, ne1_12, ne2_0, ne2_1, ne2_3, ne2_4, ne2_5, ne2_6, ne2_7, ne2_8, ne2_9, ne2_10, ne2_11, ne2_12, ne3_0, ne3_1, ne3_2, ne3_4, ne3_5, ne3_6, ne3_7, ne3_8, ne3_9, ne3_10, ne3_11, ne3_12, ne4_0, ne4_1, ne4_2, ne4_3, ne4_5, ne4_6, ne4_7, ne4_8, ne4_9, ne4_10, ne4_11, ne4_12, ne5_0, ne5_1, ne5_2, ne5_3, ne5_4, ne5_6, ne5_7, ne5_8, ne5_9, ne5_10, ne5_11, ne5_12, ne6_0, ne6_1, ne6_2, ne6_3, ne6_4, ne6_5, ne6_7, ne6_8, ne6_9, ne6_10, ne6_11, ne6_12, ne7_0, ne7_1, ne7_2, ne7_3, ne7_4, ne7_5, ne7_6, ne7_8, ne7_9, ne7_10, ne7_11, ne7_12, ne8_0, ne8_1, ne8_2, ne8_3, ne8_4, ne8_5, ne8_6, ne8_7, ne8_9, ne8_10, ne8_11, ne8_12, ne9_0, ne9_1, ne9_2, ne9_3, ne9_4, ne9_5, ne9_6, ne9_7, ne9_8, ne9_10, ne9_11, ne9_12, ne10_0, ne10_1, ne10_2, ne10_3, ne10_4, ne10_5, ne10_6, ne10_7, ne10_8, ne10_9, ne10_11, ne10_12, ne11_0, ne11_1, ne11_2, ne11_3, ne11_4, ne11_5, ne11_6, ne11_7, ne11_8, ne11_9, ne11_10, ne11_12, ne12_0, ne12_1, ne12_2, ne12_3, ne12_4, ne12_5, ne12_6, ne12_7, ne12_8, ne12_9, ne12_10, ne12_11, zCall_some, Option.toList, List.cons_append, List.nil_append, zb_0, zb_1, zem, z01, z11, nI_add, ↓reduceIte, not_true_eq_false, not_false_eq_true, n0T, n1F, n11T, true_or, or_true, false_or]
  · rw [h] at e2
    have er : nI w - nI w / nI 2 * nI 2 = nI (w % 2) := pk_rem (by omega) (by omega) (by omega)
    by_cases hm : w % 2 = 0
    · have hz : zpos σ w k = k := by unfold zpos; rw [h]; simp [hm]
      rw [hz] at ixp ep ⊢
      rw [hm] at er
      simp only [q121_0, q121_1, q121_4, q121_5, q121_6, q121_7, q121_8, q121_11, q121_12, q121_13, q121_14, q121_17, q121_18, q121_21, q121_22, q121_23, q121_24, q121_25, q121_26, q121_27, q121_28, q121_29, q121_32, q121_33, q121_34, q121_35, q121_38, q121_39, q121_40, q121_41, q121_44, q121_45, q121_48, q121_49, q121_50, q121_53, q121_54, q121_57, q121_58, q121_59, q121_60, q121_61, q121_62, q121_63, q121_64, q121_65, q121_68, q121_69, q121_70, q121_71, q121_74, q121_75, q121_78, q121_79, q121_80, q121_81, q121_82, q121_83, q121_84, q121_85, q121_86, q121_87, q121_88, q121_91, q121_92, q121_95, q121_96, q121_97, ix0, e0, ix2, e2, h20, ne_eq, er, ixp, ep, ne0_1, ne0_2, ne0_3, ne0_4, ne0_5, ne0_6, ne0_7, ne0_8, ne0_9, ne0_10, ne0_11, ne0_12, ne1_0, ne1_2, ne1_3, ne1_4, ne1_5, ne1_6, ne1_7, ne1_8, ne1_9, ne1_10, ne1_11, ne1_12, ne2_0, ne2_1, ne2_3, ne2_4, ne2_5, ne2_6, ne2_7, ne2_8, ne2_9, ne2_10, ne2_11, ne2_12, ne3_0, ne3_1, ne3_2, ne3_4, ne3_5, ne3_6, ne3_7, ne3_8, ne3_9, ne3_10, ne3_11, ne3_12, ne4_0, ne4_1, ne4_2, ne4_3, ne4_5, ne4_6, ne4_7, ne4_8, ne4_9, ne4_10, ne4_11, ne4_12, ne5_0, ne5_1, ne5_2, ne5_3, ne5_4, ne5_6, ne5_7, ne5_8, ne5_9, ne5_10, ne5_11, ne5_12, ne6_0, ne6_1, ne6_2, ne6_3, ne6_4, ne6_5, ne6_7, ne6_8, ne6_9, ne6_10, ne6_11, ne6_12, ne7_0, ne7_1, ne7_2, ne7_3, ne7_4, ne7_5, ne7_6, ne7_8, ne7_9, ne7_10, ne7_11, ne7_12, ne8_0, ne8_1, ne8_2, ne8_3, ne8_4, ne8_5, ne8_6, ne8_7, ne8_9, ne8_10, ne8_11, ne8_12, ne9_0, ne9_1, ne9_2, ne9_3, ne9_4, ne9_5, ne9_6, ne9_7, ne9_8, ne9_10, ne9_11, ne9_12, ne10_0, ne10_1, ne10_2, ne10_3, ne10_4, ne10_5, ne10_6, ne10_7, ne10_8, ne10_9, ne10_11, ne10_12, ne11_0, ne11_1, ne11_2, ne11_3, ne11_4, ne11_5, ne11_6, ne11_7, ne11_8, ne11_9, ne11_10, ne11_12, ne12_0, ne12_1, ne12_2, ne12_3, ne12_4, ne12_5, ne12_6, ne12_7, ne12_8, ne12_9, ne12_10, ne12_11, zCall_some, Option.toList, List.cons_append, List.nil_append, zb_0, zb_1, zem, z01, z11, nI_add, ↓reduceIte, not_true_eq_false, not_false_eq_true, n0T, n1F, n11T, true_or, or_true, false_or]
    · have hz : zpos σ w k = σ 0 - 1 - k := by unfold zpos; rw [h]; simp [hm]
      rw [hz] at ixp ep ⊢
      have hm1 : w % 2 = 1 := by omega
      rw [hm1] at er
      have s1 : nI (σ 0) - nI 1 = nI (σ 0 - 1) := pk_sub (by omega)
      have s2 : nI (σ 0 - 1) - nI k = nI (σ 0 - 1 - k) := pk_sub (by omega)
      simp only [q121_0, q121_1, q121_4, q121_5, q121_6, q121_7, q121_8, q121_11, q121_12, q121_13, q121_14, q121_17, q121_18, q121_21, q121_22, q121_23, q121_24, q121_25, q121_26, q121_27, q121_28, q121_29, q121_32, q121_33, q121_34, q121_35, q121_38, q121_39, q121_40, q121_41, q121_44, q121_45, q121_48, q121_49, q121_50, q121_53, q121_54, q121_57, q121_58, q121_59, q121_60, q121_61, q121_62, q121_63, q121_64, q121_65, q121_68, q121_69, q121_70, q121_71, q121_74, q121_75, q121_78, q121_79, q121_80, q121_81, q121_82, q121_83, q121_84, q121_85, q121_86, q121_87, q121_88, q121_91, q121_92, q121_95, q121_96, q121_97, ix0, e0, ix2, e2, h20, ne_eq, er, s1, s2, ixp, ep, ne0_1, ne0_2, ne0_3, ne0_4, ne0_5, ne0_6, ne0_7, ne0_8, ne0_9, ne0_10, ne0_11, ne0_12, ne1_0, ne1_2, ne1_3, ne1_4, ne1_5, ne1_6, ne1_7, ne1_8, ne1_9, ne1_10, ne1_11, ne1_12, ne2_0, ne2_1, ne2_3, ne2_4, ne2_5, ne2_6, ne2_7, ne2_8, ne2_9, ne2_10, ne2_11, ne2_12, ne3_0, ne3_1, ne3_2, ne3_4, ne3_5, ne3_6, ne3_7, ne3_8, ne3_9, ne3_10, ne3_11, ne3_12, ne4_0, ne4_1, ne4_2, ne4_3, ne4_5, ne4_6, ne4_7, ne4_8, ne4_9, ne4_10, ne4_11, ne4_12, ne5_0, ne5_1, ne5_2, ne5_3, ne5_4, ne5_6, ne5_7, ne5_8, ne5_9, ne5_10, ne5_11, ne5_12, ne6_0, ne6_1, ne6_2, ne6_3, ne6_4, ne6_5, ne6_7, ne6_8, ne6_9, ne6_10, ne6_11, ne6_12, ne7_0, ne7_1, ne7_2, ne7_3, ne7_4, ne7_5, ne7_6, ne7_8, ne7_9, ne7_10, ne7_11, ne7_12, ne8_0, ne8_1, ne8_2, ne8_3, ne8_4, ne8_5, ne8_6, ne8_7, ne8_9, ne8_10, ne8_11, ne8_12, ne9_0, ne9_1, ne9_2, ne9_3, ne9_4, ne9_5, ne9_6, ne9_7, ne9_8, ne9_10, ne9_11, ne9_12, ne10_0, ne10_1, ne10_2, ne10_3, ne10_4, ne10_5, ne10_6, ne10_7, ne10_8, ne10_9, ne10_11, ne10_12, ne11_0, ne11_1, ne11_2, ne11_3, ne11_4, ne11_5, ne11_6, ne11_7, ne11_8, ne11_9, ne11_10, ne11_12, ne12_0, ne12_1, ne12_2, ne12_3, ne12_4, ne12_5, ne12_6, ne12_7, ne12_8, ne12_9, ne12_10, ne12_11, zCall_some, Option.toList, List.cons_append, List.nil_append, zb_0, zb_1, zem, z01, z11, nI_add, ↓reduceIte, not_true_eq_false, not_false_eq_true, n0T, n1F, n11T, true_or, or_true, false_or]
  · have hz : zpos σ w k = (k + σ 0 - w % σ 0) % σ 0 := by unfold zpos; rw [h]; simp
    rw [hz] at ixp ep ⊢
    rw [h] at e2
    have hwm : w % σ 0 < σ 0 := Nat.mod_lt _ (by omega)
    have er : nI w - nI w / nI (σ 0) * nI (σ 0) = nI (w % σ 0) := pk_rem (by omega) (by omega) (by omega)
    have s1 : nI (k + σ 0) - nI (w % σ 0) = nI (k + σ 0 - w % σ 0) := pk_sub (by omega)
    have er2 : nI (k + σ 0 - w % σ 0) - nI (k + σ 0 - w % σ 0) / nI (σ 0) * nI (σ 0) = nI ((k + σ 0 - w % σ 0) % σ 0) := pk_rem (by omega) (by omega) (by omega)
    simp only [q121_0, q121_1, q121_4, q121_5, q121_6, q121_7, q121_8, q121_11, q121_12, q121_13, q121_14, q121_17, q121_18, q121_21, q121_22, q121_23, q121_24, q121_25, q121_26, q121_27, q121_28, q121_29, q121_32, q121_33, q121_34, q121_35, q121_38, q121_39, q121_40, q121_41, q121_44, q121_45, q121_48, q121_49, q121_50, q121_53, q121_54, q121_57, q121_58, q121_59, q121_60, q121_61, q121_62, q121_63, q121_64, q121_65, q121_68, q121_69, q121_70, q121_71, q121_74, q121_75, q121_78, q121_79, q121_80, q121_81, q121_82, q121_83, q121_84, q121_85, q121_86, q121_87, q121_88, q121_91, q121_92, q121_95, q121_96, q121_97, ix0, e0, ix2, e2, hn0, ne_eq, er, s1, er2, ixp, ep, ne0_1, ne0_2, ne0_3, ne0_4, ne0_5, ne0_6, ne0_7, ne0_8, ne0_9, ne0_10, ne0_11, ne0_12, ne1_0, ne1_2, ne1_3, ne1_4, ne1_5, ne1_6, ne1_7, ne1_8, ne1_9, ne1_10, ne1_11, ne1_12, ne2_0, ne2_1, ne2_3, ne2_4, ne2_5, ne2_6, ne2_7, ne2_8, ne2_9, ne2_10, ne2_11, ne2_12, ne3_0, ne3_1, ne3_2, ne3_4, ne3_5, ne3_6, ne3_7, ne3_8, ne3_9, ne3_10, ne3_11, ne3_12, ne4_0, ne4_1, ne4_2, ne4_3, ne4_5, ne4_6, ne4_7, ne4_8, ne4_9, ne4_10, ne4_11, ne4_12, ne5_0, ne5_1, ne5_2, ne5_3, ne5_4, ne5_6, ne5_7, ne5_8, ne5_9, ne5_10, ne5_11, ne5_12, ne6_0, ne6_1, ne6_2, ne6_3, ne6_4, ne6_5, ne6_7, ne6_8, ne6_9, ne6_10, ne6_11, ne6_12, ne7_0, ne7_1, ne7_2, ne7_3, ne7_4, ne7_5, ne7_6, ne7_8, ne7_9, ne7_10, ne7_11, ne7_12, ne8_0, ne8_1, ne8_2, ne8_3, ne8_4, ne8_5, ne8_6, ne8_7, ne8_9, ne8_10, ne8_11, ne8_12, ne9_0, ne9_1, ne9_2, ne9_3, ne9_4, ne9_5, ne9_6, ne9_7, ne9_8, ne9_10, ne9_11, ne9_12, ne10_0, ne10_1, ne10_2, ne10_3, ne10_4, ne10_5, ne10_6, ne10_7, ne10_8, ne10_9, ne10_11, ne10_12, ne11_0, ne11_1, ne11_2, ne11_3, ne11_4, ne11_5, ne11_6, ne11_7, ne11_8, ne11_9, ne11_10, ne11_12, ne12_0, ne12_1, ne12_2, ne12_3, ne12_4, ne12_5, ne12_6, ne12_7, ne12_8, ne12_9, ne12_10, ne12_11, zCall_some, Option.toList, List.cons_append, List.nil_append, zb_0, zb_1, zem, z01, z11, nI_add, ↓reduceIte, not_true_eq_false, not_false_eq_true, n0T, n1F, n11T, true_or, or_true, false_or]
theorem lgF_s (σ : Nat → Nat) (p m : Nat) : lgF σ p (m + 1) = lgF σ p m + σ (8 + (p + m)) := rfl
theorem m_fills {sc : Int32 × (Int32 → Int32)} {f : zF} {a : zA} {j : zJ} {d p q : Nat} {σ : Nat → Nat} (hR : MR σ a) (hp : p ≤ q + 1) (hq : q < 4) : cf sc (d + 1) 122 [.ref 85, .int (nI p), .int (nI q)] f a j = some (some (.int (nI (lgF σ p (q + 1 - p)))), f, a, j) := by
  have key := zLoop (n := q + 1 - p) (g := fun s => rn sc (cf sc d) 122 5 [.ref 85, .int (nI p), .int (nI q), .int (nI (lgF σ p s)), .int (nI (p + s))] [] f a j) (by
    intro s hs
    have c1 : ¬ nI q < nI (p + s) := nI_nlt (by omega) (by omega)
    have ix : zIx 21 86 (nI (8 + (p + s))) := ix86 (by omega)
    have e := hR (8 + (p + s)) (by omega)
    rw [q122_5, lgF_s]
    simp only [q122_0, q122_1, q122_2, q122_3, q122_7, q122_8, q122_11, q122_12, q122_13, q122_16, q122_18, q122_20, q122_21, q122_22, q122_23, q122_24, q122_27, q122_30, q122_31, c1, ix, e, Nat.add_assoc, zCall_some, Option.toList, List.cons_append, List.nil_append, zb_0, zb_1, zem, z01, z11, nI_add, ↓reduceIte, not_true_eq_false, not_false_eq_true, n0T, n1F, n11T, true_or, or_true, false_or])
  have c1 : nI q < nI (p + (q + 1 - p)) := nI_lt (by omega) (by omega)
  rw [en122, q122_0, q122_1, q122_2, q122_3]
  refine Eq.trans (show _ = _ from key) ?_
  simp only [q122_5, q122_7, q122_8, q122_30, q122_31, c1, zCall_some, Option.toList, List.cons_append, List.nil_append, zb_0, zb_1, zem, z01, z11, nI_add, ↓reduceIte, not_true_eq_false, not_false_eq_true, n0T, n1F, n11T, true_or, or_true, false_or]
theorem getD_app {L : List Nat} {g i : Nat} (h : i < L.length) : (L ++ [g]).getD i 0 = L.getD i 0 := by
  rw [List.getD_eq_getElem?_getD, List.getD_eq_getElem?_getD, List.getElem?_append_left h]
theorem getD_new {L : List Nat} {g : Nat} : (L ++ [g]).getD L.length 0 = g := by
  rw [List.getD_eq_getElem?_getD, List.getElem?_append_right (Nat.le_refl _)]
  simp
theorem lgP_app {σ : Nat → Nat} {L : List Nat} {g i : Nat} (h : i ≤ L.length) : lgP σ (L ++ [g]) i = lgP σ L i := by
  cases i with
  | zero => rfl
  | succ i =>
    show σ (16 + (L ++ [g]).getD i 0) + 1 = σ (16 + L.getD i 0) + 1
    rw [getD_app (by omega)]
theorem lgA_app {σ : Nat → Nat} {L : List Nat} {g i : Nat} (h : i < L.length) : lgA σ (L ++ [g]) i = lgA σ L i := by
  unfold lgA
  rw [getD_app h, lgP_app (by omega)]
theorem lgA_new {σ : Nat → Nat} {L : List Nat} {g : Nat} : lgA σ (L ++ [g]) L.length = lgF σ (lgP σ L L.length) (σ (16 + g) + 1 - lgP σ L L.length) := by
  unfold lgA
  rw [getD_new, lgP_app (Nat.le_refl _)]
theorem lgS_app {σ : Nat → Nat} {L : List Nat} {g : Nat} : ∀ i, i ≤ L.length → lgS σ (L ++ [g]) i = lgS σ L i
  | 0, _ => rfl
  | i + 1, h => by
    have ih := lgS_app (σ := σ) (L := L) (g := g) i (by omega)
    show lgS σ (L ++ [g]) i + lgA σ (L ++ [g]) i = lgS σ L i + lgA σ L i
    rw [ih, lgA_app (by omega)]
/-- how far it is reached, as the reference holds it: -1 where p is 0 -/
def rcV : Nat → Int32
  | 0 => -1
  | s + 1 => nI s
theorem rcV_1 : ∀ p, rcV p + nI 1 = nI p
  | 0 => by decide
  | s + 1 => nI_add s 1
theorem rcV_s (s : Nat) : rcV (s + 1) = nI s := rfl
theorem rcV_le {r : Nat} (hr : r < 2 ^ 30) : ∀ p, p < 2 ^ 30 → ((nI r ≤ rcV p) ↔ r + 1 ≤ p)
  | 0, _ => by
    show (nI r ≤ -1) ↔ _
    rw [Int32.le_iff_toInt_le, nI_toInt (by omega)]
    have : (-1 : Int32).toInt = -1 := by decide
    omega
  | s + 1, hp => by
    show (nI r ≤ nI s) ↔ _
    rw [Int32.le_iff_toInt_le, nI_toInt (by omega), nI_toInt (by omega)]
    omega
/-- while TURNS are taken -/
def TkM (σ : Nat → Nat) (w k : Nat) (f : zF) (a : zA) : Prop := f 85 12 = nI (oS σ w k).length ∧ f 85 13 = nI (lgS σ (oS σ w k) (oS σ w k).length) ∧ zLst a 90 (oS σ w k) ∧ (∀ i, i < (oS σ w k).length → a 91 (nI i) = nI (lgA σ (oS σ w k) i)) ∧ ∀ g, g < 8 → a 92 (nI g) = plS σ w k g
theorem tk_1 {sc : Int32 × (Int32 → Int32)} {F : zCF} {f : zF} {a : zA} {j : zJ} {v1 v3 v4 v5 : Value} : ∃ a' : zA, rn sc F 123 16 [.ref 85, v1, .int (nI 0), v3, v4, v5] [] f a j = rn sc F 123 36 [.ref 85, v1, .int (nI 8), v3, v4, v5] [] f a' j ∧ (∀ q, q < 8 → a' 92 (nI q) = -5) ∧ ∀ k, k ≠ 92 → a' k = a k := by
  have key := zLoopP (n := 8) (g := fun s : (Nat × zA) => rn sc F 123 16 [.ref 85, v1, .int (nI s.1), v3, v4, v5] [] f s.2 j) (P := fun i s => s.1 = i ∧ (∀ q, q < i → s.2 92 (nI q) = -5) ∧ ∀ k, k ≠ 92 → s.2 k = a k) (by
    intro i s hi hP
    obtain ⟨i', a1⟩ := s
    obtain ⟨rfl, g1, g2⟩ := hP
    dsimp only at g1 g2 hi
    have c1 : ¬ nI 8 ≤ nI i' := nI_ge hi (by omega)
    have ix : zIx 21 92 (nI i') := ix92 hi
    refine ⟨(i' + 1, zuA a1 92 (nI i') (-5)), ⟨rfl, fun q hq => ?_, fun k hk => ?_⟩, ?_⟩
    · dsimp only
      by_cases e : q = i'
      · rw [e]; exact zuA_eq
      · rw [zuA_ni (nI_ne (by omega) (by omega) e)]; exact g1 q (by omega)
    · dsimp only
      rw [zuA_nk hk]; exact g2 k hk
    · dsimp only
      rw [q123_16]
      simp only [q123_17, q123_19, q123_22, q123_23, q123_26, q123_27, q123_29, q123_30, q123_33, c1, ix, zCall_some, Option.toList, List.cons_append, List.nil_append, zb_0, zb_1, zem, z01, z11, nI_add, ↓reduceIte, not_true_eq_false, not_false_eq_true, n0T, n1F, n11T, true_or, or_true, false_or]) (0, a) ⟨rfl, fun q hq => by omega, fun _ _ => rfl⟩
  obtain ⟨⟨i, a1⟩, ⟨hi, g1, g2⟩, e⟩ := key
  dsimp only at g1 g2 hi e
  rw [hi] at e
  refine ⟨a1, ?_, g1, g2⟩
  have c1 : nI 8 ≤ nI 8 := nI_le (Nat.le_refl _) (by omega)
  refine Eq.trans (show _ = _ from e) ?_
  simp only [q123_16, q123_17, q123_19, c1, zCall_some, Option.toList, List.cons_append, List.nil_append, zb_0, zb_1, zem, z01, z11, nI_add, ↓reduceIte, not_true_eq_false, not_false_eq_true, n0T, n1F, n11T, true_or, or_true, false_or]
theorem tk_2 {sc : Int32 × (Int32 → Int32)} {d : Nat} {j : zJ} {w : Nat} {σ : Nat → Nat} (hV : VR σ) (hw : w ≤ 1010) (hr : σ 2 ≤ 3) : ∀ (m k : Nat) (f : zF) (a : zA) (v4 v5 : Value), k + m = σ 0 → MR σ a → zLst a 89 (lnO σ 4) → TkM σ w k f a →
    ∃ (f' : zF) (a' : zA) (v2 v4' v5' : Value), rn sc (cf sc (d + 1)) 123 40 [.ref 85, .int (nI w), .int (rcV (lgP σ (oS σ w k) (oS σ w k).length)), .int (nI k), v4, v5] [] f a j = rn sc (cf sc (d + 1)) 123 169 [.ref 85, .int (nI w), v2, .int (nI (σ 0)), v4', v5'] [] f' a' j ∧ TkM σ w (σ 0) f' a' ∧ (∀ k, k ≠ 90 → k ≠ 91 → k ≠ 92 → a' k = a k) ∧ (∀ k, k ≠ 85 → f' k = f k) ∧ ∀ i, i ≠ 12 → i ≠ 13 → f' 85 i = f 85 i := by
  have hn := hV.1
  intro m
  induction m with
  | zero =>
    intro k f a v4 v5 hk hR hL hT
    have hk : k = σ 0 := by omega
    subst hk
    have c1 : nI (σ 0) ≤ nI (σ 0) := nI_le (Nat.le_refl _) (by omega)
    have ix0 : zIx 21 86 (nI 0) := ix86 (by omega)
    have e0 := hR 0 (by omega)
    refine ⟨f, a, .int (rcV (lgP σ (oS σ w (σ 0)) (oS σ w (σ 0)).length)), v4, v5, ?_, hT, fun _ _ _ _ => rfl, fun _ _ => rfl, fun _ _ _ => rfl⟩
    simp only [q123_40, q123_41, q123_42, q123_45, q123_46, q123_47, ix0, e0, c1, zCall_some, Option.toList, List.cons_append, List.nil_append, zb_0, zb_1, zem, z01, z11, nI_add, ↓reduceIte, not_true_eq_false, not_false_eq_true, n0T, n1F, n11T, true_or, or_true, false_or]
  | succ m ih =>
    intro k f a v4 v5 hk hR hL hT
    have hkn : k < σ 0 := by omega
    have hp : zpos σ w k < σ 0 := zpos_lt hkn
    have hg : lnA σ (zpos σ w k) < σ 0 := lnA_lt hV hp
    have h1w := (hV.2.2.1 _ hg).2.2
    have h4 := (hV.2.2.1 _ hg).1
    have c1 : ¬ nI (σ 0) ≤ nI k := nI_ge hkn (by omega)
    have ix0 : zIx 21 86 (nI 0) := ix86 (by omega)
    have e0 := hR 0 (by omega)
    have hS := m_standing (sc := sc) (d := d) (f := f) (j := j) hR hV hkn hw hr hL
    have hlen := oS_len (σ := σ) (w := w) k
    have hA := m_isAwayR (sc := sc) (d := d) (f := f) (j := j) hR (show lnA σ (zpos σ w k) < 8 by omega) h1w
    obtain ⟨hT1, hT2, hT3, hT4, hT5⟩ := hT
    by_cases haw : σ (32 + lnA σ (zpos σ w k)) = 1
    · have e1 : oS σ w (k + 1) = oS σ w k := by
        show (if _ then _ else _) = _
        rw [if_pos haw]
      have e2 : plS σ w (k + 1) = plS σ w k := by
        show (if _ then _ else _) = _
        rw [if_pos haw]
      obtain ⟨f', a', v2, v4', v5', h1, h2, h3⟩ := ih (k + 1) f a (.int (nI (lnA σ (zpos σ w k)))) v5 (by omega) hR hL ⟨by rw [e1]; exact hT1, by rw [e1]; exact hT2, by rw [e1]; exact hT3, by rw [e1]; exact hT4, fun g hg => by rw [e2]; exact hT5 g hg⟩
      refine ⟨f', a', v2, v4', v5', ?_, h2, h3⟩
      rw [← h1, q123_40, e1]
      simp only [q123_0, q123_1, q123_4, q123_5, q123_6, q123_9, q123_10, q123_11, q123_14, q123_15, q123_16, q123_17, q123_19, q123_22, q123_23, q123_26, q123_27, q123_29, q123_30, q123_33, q123_36, q123_37, q123_38, q123_39, q123_41, q123_42, q123_45, q123_46, q123_47, q123_50, q123_51, q123_52, q123_53, q123_56, q123_58, q123_59, q123_61, q123_64, q123_67, q123_70, q123_71, q123_74, q123_75, q123_78, q123_80, q123_81, q123_82, q123_85, q123_87, q123_88, q123_91, q123_92, q123_93, q123_96, q123_98, q123_100, q123_101, q123_102, q123_104, q123_105, q123_108, q123_109, q123_112, q123_114, q123_115, q123_118, q123_119, q123_120, q123_121, q123_122, q123_124, q123_127, q123_130, q123_131, q123_132, q123_134, q123_135, q123_136, q123_137, q123_140, q123_141, q123_144, q123_145, q123_148, q123_149, q123_150, q123_153, q123_154, q123_155, q123_158, q123_159, q123_160, q123_163, q123_166, q123_170, q123_171, q123_174, q123_175, q123_176, q123_177, q123_180, q123_183, q123_184, q123_187, q123_188, q123_189, q123_190, q123_193, q123_194, q123_197, q123_198, q123_201, ix0, e0, c1, hS, hA, eq_true haw, zCall_some, Option.toList, List.cons_append, List.nil_append, zb_0, zb_1, zem, z01, z11, nI_add, ↓reduceIte, not_true_eq_false, not_false_eq_true, n0T, n1F, n11T, true_or, or_true, false_or]
    · have e1 : oS σ w (k + 1) = oS σ w k ++ [lnA σ (zpos σ w k)] := by
        show (if _ then _ else _) = _
        rw [if_neg haw]
      have e2 : plS σ w (k + 1) = fun g => if g = lnA σ (zpos σ w k) then nI (oS σ w k).length else plS σ w k g := by
        show (if _ then _ else _) = _
        rw [if_neg haw]
      have e3 : (oS σ w (k + 1)).length = (oS σ w k).length + 1 := by rw [e1, List.length_append]; rfl
      have hpl : lgP σ (oS σ w k) (oS σ w k).length ≤ 4 := by
        cases hh : (oS σ w k).length with
        | zero => exact Nat.zero_le _
        | succ i =>
          have hm : (oS σ w k).getD i 0 < σ 0 := oS_lt hV (by omega) (getD_mem (by omega))
          have := (hV.2.2.1 _ hm).1
          show σ (16 + (oS σ w k).getD i 0) + 1 ≤ 4
          omega
      generalize hG : lnA σ (zpos σ w k) = G at *
      generalize hO : oS σ w k = L at *
      have ix90' : zIx 21 90 (nI L.length) := ix90 (by omega)
      have ix91' : zIx 21 91 (nI L.length) := ix91 (by omega)
      have ix92' : zIx 21 92 (nI G) := ix92 (by omega)
      have ix16 : zIx 21 86 (nI (16 + G)) := ix86 (by omega)
      have hR2 : ∀ x y : Int32, MR σ (zuA (zuA a 90 (nI L.length) x) 92 (nI G) y) := fun x y => hR.of (by rw [zuA_nk (by omega), zuA_nk (by omega)])
      have e16 : ∀ x y : Int32, zuA (zuA a 90 (nI L.length) x) 92 (nI G) y 86 (nI (16 + G)) = nI (σ (16 + G)) := fun x y => hR2 x y (16 + G) (by omega)
      have er := lgA_new (σ := σ) (L := L) (g := G)
      have ep1 : lgP σ (L ++ [G]) (L.length + 1) = σ (16 + G) + 1 := by
        show σ (16 + (L ++ [G]).getD L.length 0) + 1 = _
        rw [getD_new]
      have es : lgS σ (L ++ [G]) (L.length + 1) = lgS σ L L.length + lgA σ (L ++ [G]) L.length := by
        show lgS σ (L ++ [G]) L.length + _ = _
        rw [lgS_app _ (Nat.le_refl _)]
      obtain ⟨f', a', v2, v4', v5', h1, h2, h3, h5, h6⟩ := ih (k + 1) (zuF (zuF f 85 13 (nI (lgS σ L L.length + lgA σ (L ++ [G]) L.length))) 85 12 (nI (L.length + 1))) (zuA (zuA (zuA a 90 (nI L.length) (nI G)) 92 (nI G) (nI L.length)) 91 (nI L.length) (nI (lgA σ (L ++ [G]) L.length))) (.int (nI G)) (.int (nI (σ (16 + G)))) (by omega)
        ((hR2 _ _).of (zuA_nk (by omega)))
        (zLst_of hL (by rw [zuA_nk (by omega), zuA_nk (by omega), zuA_nk (by omega)]))
        ⟨by rw [e3, zuF_eq], by rw [e3, e1, es, zuF_ni (by omega), zuF_eq], by
          rw [e1]
          exact zLst_of (zLst_push (by omega) hT3 _) (by rw [zuA_nk (by omega), zuA_nk (by omega)]), fun i hi => by
          rw [e3] at hi
          rw [e1]
          by_cases e : i = L.length
          · rw [e]; exact zuA_eq
          · rw [zuA_ni (nI_ne (by omega) (by omega) e), zuA_nk (by omega), zuA_nk (by omega), lgA_app (by omega)]
            exact hT4 i (by omega), fun g hg8 => by
          rw [e2]
          dsimp only
          rw [zuA_nk (by omega)]
          by_cases e : g = G
          · rw [if_pos e, e]; exact zuA_eq
          · rw [if_neg e, zuA_ni (nI_ne (by omega) (by omega) e), zuA_nk (by omega)]; exact hT5 g hg8⟩
      refine ⟨f', a', v2, v4', v5', ?_, h2, fun q q1 q2 q3 => by rw [h3 q q1 q2 q3, zuA_nk q2, zuA_nk q3, zuA_nk q1], fun q hq => by rw [h5 q hq, zuF_nk hq, zuF_nk hq], fun i hi hi2 => by rw [h6 i hi hi2, zuF_ni hi, zuF_ni hi2]⟩
      rw [e3, e1, ep1] at h1
      rw [← h1, q123_40]
      have h12 : ∀ x : Int32, zuF f 85 13 x 85 12 = nI L.length := fun x => by rw [zuF_ni (by omega)]; exact hT1
      have ql : (nI (σ (16 + G)) ≤ rcV (lgP σ L L.length)) = (σ (16 + G) + 1 ≤ lgP σ L L.length) := propext (rcV_le (by omega) _ (by omega))
      by_cases hle : σ (16 + G) + 1 ≤ lgP σ L L.length
      · rw [show σ (16 + G) + 1 - lgP σ L L.length = 0 by omega] at er
        have er : lgA σ (L ++ [G]) L.length = 0 := er
        rw [er]
        simp only [q123_0, q123_1, q123_4, q123_5, q123_6, q123_9, q123_10, q123_11, q123_14, q123_15, q123_16, q123_17, q123_19, q123_22, q123_23, q123_26, q123_27, q123_29, q123_30, q123_33, q123_36, q123_37, q123_38, q123_39, q123_41, q123_42, q123_45, q123_46, q123_47, q123_50, q123_51, q123_52, q123_53, q123_56, q123_58, q123_59, q123_61, q123_64, q123_67, q123_70, q123_71, q123_74, q123_75, q123_78, q123_80, q123_81, q123_82, q123_85, q123_87, q123_88, q123_91, q123_92, q123_93, q123_96, q123_98, q123_100, q123_101, q123_102, q123_104, q123_105, q123_108, q123_109, q123_112, q123_114, q123_115, q123_118, q123_119, q123_120, q123_121, q123_122, q123_124, q123_127, q123_130, q123_131, q123_132, q123_134, q123_135, q123_136, q123_137, q123_140, q123_141, q123_144, q123_145, q123_148, q123_149, q123_150, q123_153, q123_154, q123_155, q123_158, q123_159, q123_160, q123_163, q123_166, q123_170, q123_171, q123_174, q123_175, q123_176, q123_177, q123_180, q123_183, q123_184, q123_187, q123_188, q123_189, q123_190, q123_193, q123_194, q123_197, q123_198, q123_201, ix0, e0, c1, hS, hA, eq_false haw, hT1, hT2, ix90', ix91', ix92', ix16, e16, ql, eq_true hle, zuA_eq, h12, rcV_s, zCall_some, Option.toList, List.cons_append, List.nil_append, zb_0, zb_1, zem, z01, z11, nI_add, ↓reduceIte, not_true_eq_false, not_false_eq_true, n0T, n1F, n11T, true_or, or_true, false_or]
      · have hF := m_fills (sc := sc) (d := d) (f := f) (j := j) (a := zuA (zuA a 90 (nI L.length) (nI G)) 92 (nI G) (nI L.length)) (p := lgP σ L L.length) (q := σ (16 + G)) (hR2 _ _) (by omega) h4
        rw [← er] at hF
        simp only [q123_0, q123_1, q123_4, q123_5, q123_6, q123_9, q123_10, q123_11, q123_14, q123_15, q123_16, q123_17, q123_19, q123_22, q123_23, q123_26, q123_27, q123_29, q123_30, q123_33, q123_36, q123_37, q123_38, q123_39, q123_41, q123_42, q123_45, q123_46, q123_47, q123_50, q123_51, q123_52, q123_53, q123_56, q123_58, q123_59, q123_61, q123_64, q123_67, q123_70, q123_71, q123_74, q123_75, q123_78, q123_80, q123_81, q123_82, q123_85, q123_87, q123_88, q123_91, q123_92, q123_93, q123_96, q123_98, q123_100, q123_101, q123_102, q123_104, q123_105, q123_108, q123_109, q123_112, q123_114, q123_115, q123_118, q123_119, q123_120, q123_121, q123_122, q123_124, q123_127, q123_130, q123_131, q123_132, q123_134, q123_135, q123_136, q123_137, q123_140, q123_141, q123_144, q123_145, q123_148, q123_149, q123_150, q123_153, q123_154, q123_155, q123_158, q123_159, q123_160, q123_163, q123_166, q123_170, q123_171, q123_174, q123_175, q123_176, q123_177, q123_180, q123_183, q123_184, q123_187, q123_188, q123_189, q123_190, q123_193, q123_194, q123_197, q123_198, q123_201, ix0, e0, c1, hS, hA, eq_false haw, hT1, hT2, ix90', ix91', ix92', ix16, e16, ql, eq_false hle, rcV_1, hF, zuA_eq, h12, rcV_s, zCall_some, Option.toList, List.cons_append, List.nil_append, zb_0, zb_1, zem, z01, z11, nI_add, ↓reduceIte, not_true_eq_false, not_false_eq_true, n0T, n1F, n11T, true_or, or_true, false_or]
/-- behind takeTurns -/
def TkR (σ : Nat → Nat) (w : Nat) (f : zF) (a : zA) : Prop := f 85 12 = nI (oL σ w).length ∧ f 85 13 = nI (lagAll σ w) ∧ f 85 14 = nI (leftOf σ w) ∧ zLst a 89 (lnO σ 4) ∧ zLst a 90 (oL σ w) ∧ (∀ i, i < (oL σ w).length → a 91 (nI i) = nI (lgA σ (oL σ w) i)) ∧ ∀ g, g < 8 → a 92 (nI g) = plS σ w (σ 0) g
theorem m_takeTurns {sc : Int32 × (Int32 → Int32)} {f : zF} {a : zA} {j : zJ} {d w : Nat} {σ : Nat → Nat} (hR : MR σ a) (hV : VR σ) (hw : w ≤ 1010) (hr : σ 2 ≤ 3) : ∃ (f' : zF) (a' : zA), cf sc (d + 2) 123 [.ref 85, .int (nI w)] f a j = some (none, f', a', j) ∧ TkR σ w f' a' ∧ (∀ k, (k < 89 ∨ 92 < k) → a' k = a k) ∧ (∀ k, k ≠ 85 → f' k = f k) ∧ ∀ i, i ≠ 12 → i ≠ 13 → i ≠ 14 → f' 85 i = f 85 i := by
  have hn := hV.1
  have h97 := hV.2.1
  have hlag := lag_le hV w
  obtain ⟨a1, s1, s2, s3⟩ := m_lines (sc := sc) (d := d) (f := f) (j := j) hR hV
  obtain ⟨a2, t1, t2, t3⟩ := tk_1 (sc := sc) (F := cf sc (d + 1)) (f := zuF (zuF f 85 12 (nI 0)) 85 13 (nI 0)) (a := a1) (j := j) (v1 := .int (nI w)) (v3 := .null) (v4 := .null) (v5 := .null)
  have hR2 : MR σ a2 := hR.of (by rw [t3 86 (by omega), s3 86 (by omega)])
  have hL2 : zLst a2 89 (lnO σ 4) := zLst_of s2 (t3 89 (by omega))
  obtain ⟨f3, a3, v2, v4, v5, u1, u2, u3, u4, u5⟩ := tk_2 (sc := sc) (d := d) (j := j) hV hw hr (σ 0) 0 (zuF (zuF f 85 12 (nI 0)) 85 13 (nI 0)) a2 .null .null (by omega) hR2 hL2 ⟨by rw [zuF_ni (by omega)]; exact zuF_eq, zuF_eq, zLst_nil, fun i hi => absurd hi (Nat.not_lt_zero i), t2⟩
  obtain ⟨w1, w2, w3, w4, w5⟩ := u2
  have hR3 : MR σ a3 := hR2.of (u3 86 (by omega) (by omega) (by omega))
  have ix1 : zIx 21 86 (nI 1) := ix86 (by omega)
  have e1 := hR3 1 (by omega)
  have w2 : f3 85 13 = nI (lagAll σ w) := w2
  refine ⟨zuF f3 85 14 (nI (leftOf σ w)), a3, ?_, ⟨by rw [zuF_ni (by omega)]; exact w1, by rw [zuF_ni (by omega)]; exact w2, zuF_eq, zLst_of hL2 (u3 89 (by omega) (by omega) (by omega)), w3, w4, w5⟩, fun k hk => by rw [u3 k (by omega) (by omega) (by omega), t3 k (by omega), s3 k (by omega)], fun k hk => by rw [zuF_nk hk, u4 k hk, zuF_nk hk, zuF_nk hk], fun i i1 i2 i3 => by rw [zuF_ni i3, u5 i i1 i2, zuF_ni i2, zuF_ni i1]⟩
  rw [en123]
  simp only [q123_0, q123_1, q123_4, q123_5, q123_6, q123_9, q123_10, q123_11, q123_14, q123_15, s1, zCall_some, Option.toList, List.cons_append, List.nil_append, zb_0, zb_1, zem, z01, z11, nI_add, ↓reduceIte, not_true_eq_false, not_false_eq_true, n0T, n1F, n11T, true_or, or_true, false_or]
  refine Eq.trans (show _ = _ from t1) ?_
  simp only [q123_36, q123_37, q123_38, q123_39]
  refine Eq.trans (show _ = _ from u1) ?_
  unfold leftOf
  by_cases hle : σ 1 ≤ lagAll σ w
  · have c1 : nI (σ 1) ≤ nI (lagAll σ w) := nI_le hle (by omega)
    rw [show σ 1 - lagAll σ w = 0 by omega]
    simp only [q123_0, q123_1, q123_4, q123_5, q123_6, q123_9, q123_10, q123_11, q123_14, q123_15, q123_16, q123_17, q123_19, q123_22, q123_23, q123_26, q123_27, q123_29, q123_30, q123_33, q123_36, q123_37, q123_38, q123_39, q123_41, q123_42, q123_45, q123_46, q123_47, q123_50, q123_51, q123_52, q123_53, q123_56, q123_58, q123_59, q123_61, q123_64, q123_67, q123_70, q123_71, q123_74, q123_75, q123_78, q123_80, q123_81, q123_82, q123_85, q123_87, q123_88, q123_91, q123_92, q123_93, q123_96, q123_98, q123_100, q123_101, q123_102, q123_104, q123_105, q123_108, q123_109, q123_112, q123_114, q123_115, q123_118, q123_119, q123_120, q123_121, q123_122, q123_124, q123_127, q123_130, q123_131, q123_132, q123_134, q123_135, q123_136, q123_137, q123_140, q123_141, q123_144, q123_145, q123_148, q123_149, q123_150, q123_153, q123_154, q123_155, q123_158, q123_159, q123_160, q123_163, q123_166, q123_169, q123_170, q123_171, q123_174, q123_175, q123_176, q123_177, q123_180, q123_183, q123_184, q123_187, q123_188, q123_189, q123_190, q123_193, q123_194, q123_197, q123_198, q123_201, ix1, e1, w2, c1, zCall_some, Option.toList, List.cons_append, List.nil_append, zb_0, zb_1, zem, z01, z11, nI_add, ↓reduceIte, not_true_eq_false, not_false_eq_true, n0T, n1F, n11T, true_or, or_true, false_or]
  · have c1 : ¬ nI (σ 1) ≤ nI (lagAll σ w) := nI_ge (by omega) (by omega)
    have es : nI (σ 1) - nI (lagAll σ w) = nI (σ 1 - lagAll σ w) := pk_sub (by omega)
    simp only [q123_0, q123_1, q123_4, q123_5, q123_6, q123_9, q123_10, q123_11, q123_14, q123_15, q123_16, q123_17, q123_19, q123_22, q123_23, q123_26, q123_27, q123_29, q123_30, q123_33, q123_36, q123_37, q123_38, q123_39, q123_41, q123_42, q123_45, q123_46, q123_47, q123_50, q123_51, q123_52, q123_53, q123_56, q123_58, q123_59, q123_61, q123_64, q123_67, q123_70, q123_71, q123_74, q123_75, q123_78, q123_80, q123_81, q123_82, q123_85, q123_87, q123_88, q123_91, q123_92, q123_93, q123_96, q123_98, q123_100, q123_101, q123_102, q123_104, q123_105, q123_108, q123_109, q123_112, q123_114, q123_115, q123_118, q123_119, q123_120, q123_121, q123_122, q123_124, q123_127, q123_130, q123_131, q123_132, q123_134, q123_135, q123_136, q123_137, q123_140, q123_141, q123_144, q123_145, q123_148, q123_149, q123_150, q123_153, q123_154, q123_155, q123_158, q123_159, q123_160, q123_163, q123_166, q123_169, q123_170, q123_171, q123_174, q123_175, q123_176, q123_177, q123_180, q123_183, q123_184, q123_187, q123_188, q123_189, q123_190, q123_193, q123_194, q123_197, q123_198, q123_201, ix1, e1, w2, c1, es, zCall_some, Option.toList, List.cons_append, List.nil_append, zb_0, zb_1, zem, z01, z11, nI_add, ↓reduceIte, not_true_eq_false, not_false_eq_true, n0T, n1F, n11T, true_or, or_true, false_or]
