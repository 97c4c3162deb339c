/-! ===== the class: of, turn, lag, line, who, shared, told ===== -/
theorem x_of {sc : Int32 × (Int32 → Int32)} {f : zF} {a : zA} {j : zJ} {d : Nat} {σ : Nat → Nat} {v what : Int32} (hW : WR 1 σ f a) (hV : VS σ) : ∃ (f' : zF) (a' : zA), cf sc (d + 7) 61 [.ref 0, .int v, .int what] f a j = some (some (.int (sOf σ v what)), f', a', j) ∧ FrT f f' a a' := by
  have hVR := hV.1.1
  have hn := hVR.1
  have hR : CR0 2 σ f a := hW.1
  have hw : σ 3 ≤ 1010 := by have := hV.1.2.2.2.2; omega
  have hTr : true = true → TrOK σ (σ 3) := fun _ => hV.2.1
  obtain ⟨f1, a1, t1, t2, t3⟩ := m_turnsNow (sc := sc) (d := d) (j := j) hW hV
  have hW1 := hW.fr isW_1 t3
  have hR1 : CR0 2 σ f1 a1 := hW1.1
  rw [en61]
  unfold sOf
  by_cases hv : zHas v (σ 0)
  · obtain ⟨g, hg, rfl⟩ := zHas_of (by omega) hv
    have ec : (nI g).toNatClampNeg = g := nI_clamp (by omega)
    have ix3 : zIx 21 5 (nI g) := ixC3 isC_2 (by omega)
    have ix4 : zIx 21 6 (nI g) := ixC4 isC_2 (by omega)
    have r3 : a 5 (nI g) = nI (σ (16 + g)) := (hR.2.2.2.1 g hg).1
    have r4 : a 6 (nI g) = nI (σ (24 + g)) := (hR.2.2.2.1 g hg).2
    rw [if_pos hv, ec]
    by_cases e0 : what = nI 0
    · subst e0
      refine ⟨f, a, ?_, FrT.rf⟩
      simp only [q61_0, q61_1, q61_4, q61_7, q61_8, q61_9, q61_10, q61_13, q61_16, q61_17, q61_18, q61_19, q61_68, q61_69, q61_72, q61_73, q61_74, q61_75, q61_76, q61_79, q61_80, q61_81, q61_82, q61_83, q61_84, q61_87, q61_90, q61_91, q61_94, q61_95, q61_96, q61_97, q61_100, q61_101, q61_104, q61_105, q61_106, q61_109, q61_110, q61_113, q61_114, q61_115, q61_118, q61_119, q61_122, q61_123, q61_124, q61_127, q61_128, q61_131, q61_132, q61_133, q61_136, q61_137, q61_140, q61_141, q61_142, q61_145, q61_146, q61_147, q61_148, q61_151, q61_152, q61_155, q61_156, q61_157, isW_1, isC_2, Nat.reduceAdd, m_hasField isC_2 hR.1 hn, eq_true hv, ne0_1, ne0_2, ne0_3, ne0_4, ne0_5, ne0_6, ne0_7, ne0_8, ne0_9, ne0_10, ne0_11, ne0_12, ne1_0, ne1_2, ne1_3, ne1_4, ne1_5, ne1_6, ne1_7, ne1_8, ne1_9, ne1_10, ne1_11, ne1_12, ne2_0, ne2_1, ne2_3, ne2_4, ne2_5, ne2_6, ne2_7, ne2_8, ne2_9, ne2_10, ne2_11, ne2_12, ne3_0, ne3_1, ne3_2, ne3_4, ne3_5, ne3_6, ne3_7, ne3_8, ne3_9, ne3_10, ne3_11, ne3_12, ne4_0, ne4_1, ne4_2, ne4_3, ne4_5, ne4_6, ne4_7, ne4_8, ne4_9, ne4_10, ne4_11, ne4_12, ne5_0, ne5_1, ne5_2, ne5_3, ne5_4, ne5_6, ne5_7, ne5_8, ne5_9, ne5_10, ne5_11, ne5_12, ne6_0, ne6_1, ne6_2, ne6_3, ne6_4, ne6_5, ne6_7, ne6_8, ne6_9, ne6_10, ne6_11, ne6_12, ne7_0, ne7_1, ne7_2, ne7_3, ne7_4, ne7_5, ne7_6, ne7_8, ne7_9, ne7_10, ne7_11, ne7_12, ne8_0, ne8_1, ne8_2, ne8_3, ne8_4, ne8_5, ne8_6, ne8_7, ne8_9, ne8_10, ne8_11, ne8_12, ne9_0, ne9_1, ne9_2, ne9_3, ne9_4, ne9_5, ne9_6, ne9_7, ne9_8, ne9_10, ne9_11, ne9_12, ne10_0, ne10_1, ne10_2, ne10_3, ne10_4, ne10_5, ne10_6, ne10_7, ne10_8, ne10_9, ne10_11, ne10_12, ne11_0, ne11_1, ne11_2, ne11_3, ne11_4, ne11_5, ne11_6, ne11_7, ne11_8, ne11_9, ne11_10, ne11_12, ne12_0, ne12_1, ne12_2, ne12_3, ne12_4, ne12_5, ne12_6, ne12_7, ne12_8, ne12_9, ne12_10, ne12_11, zCall_some, Option.toList, List.cons_append, List.nil_append, zb_0, zb_1, zem, z01, z11, nI_add, ↓reduceIte, not_true_eq_false, not_false_eq_true, n0T, n1F, n11T, true_or, or_true, false_or, ix3, r3]
    · skip
      by_cases e1 : what = nI 1
      · subst e1
        refine ⟨f, a, ?_, FrT.rf⟩
        simp only [q61_0, q61_1, q61_4, q61_7, q61_8, q61_9, q61_10, q61_13, q61_16, q61_17, q61_18, q61_19, q61_68, q61_69, q61_72, q61_73, q61_74, q61_75, q61_76, q61_79, q61_80, q61_81, q61_82, q61_83, q61_84, q61_87, q61_90, q61_91, q61_94, q61_95, q61_96, q61_97, q61_100, q61_101, q61_104, q61_105, q61_106, q61_109, q61_110, q61_113, q61_114, q61_115, q61_118, q61_119, q61_122, q61_123, q61_124, q61_127, q61_128, q61_131, q61_132, q61_133, q61_136, q61_137, q61_140, q61_141, q61_142, q61_145, q61_146, q61_147, q61_148, q61_151, q61_152, q61_155, q61_156, q61_157, isW_1, isC_2, Nat.reduceAdd, m_hasField isC_2 hR.1 hn, eq_true hv, ne0_1, ne0_2, ne0_3, ne0_4, ne0_5, ne0_6, ne0_7, ne0_8, ne0_9, ne0_10, ne0_11, ne0_12, ne1_0, ne1_2, ne1_3, ne1_4, ne1_5, ne1_6, ne1_7, ne1_8, ne1_9, ne1_10, ne1_11, ne1_12, ne2_0, ne2_1, ne2_3, ne2_4, ne2_5, ne2_6, ne2_7, ne2_8, ne2_9, ne2_10, ne2_11, ne2_12, ne3_0, ne3_1, ne3_2, ne3_4, ne3_5, ne3_6, ne3_7, ne3_8, ne3_9, ne3_10, ne3_11, ne3_12, ne4_0, ne4_1, ne4_2, ne4_3, ne4_5, ne4_6, ne4_7, ne4_8, ne4_9, ne4_10, ne4_11, ne4_12, ne5_0, ne5_1, ne5_2, ne5_3, ne5_4, ne5_6, ne5_7, ne5_8, ne5_9, ne5_10, ne5_11, ne5_12, ne6_0, ne6_1, ne6_2, ne6_3, ne6_4, ne6_5, ne6_7, ne6_8, ne6_9, ne6_10, ne6_11, ne6_12, ne7_0, ne7_1, ne7_2, ne7_3, ne7_4, ne7_5, ne7_6, ne7_8, ne7_9, ne7_10, ne7_11, ne7_12, ne8_0, ne8_1, ne8_2, ne8_3, ne8_4, ne8_5, ne8_6, ne8_7, ne8_9, ne8_10, ne8_11, ne8_12, ne9_0, ne9_1, ne9_2, ne9_3, ne9_4, ne9_5, ne9_6, ne9_7, ne9_8, ne9_10, ne9_11, ne9_12, ne10_0, ne10_1, ne10_2, ne10_3, ne10_4, ne10_5, ne10_6, ne10_7, ne10_8, ne10_9, ne10_11, ne10_12, ne11_0, ne11_1, ne11_2, ne11_3, ne11_4, ne11_5, ne11_6, ne11_7, ne11_8, ne11_9, ne11_10, ne11_12, ne12_0, ne12_1, ne12_2, ne12_3, ne12_4, ne12_5, ne12_6, ne12_7, ne12_8, ne12_9, ne12_10, ne12_11, zCall_some, Option.toList, List.cons_append, List.nil_append, zb_0, zb_1, zem, z01, z11, nI_add, ↓reduceIte, not_true_eq_false, not_false_eq_true, n0T, n1F, n11T, true_or, or_true, false_or, ix4, r4]
      · skip
        by_cases e2 : what = nI 2
        · subst e2
          refine ⟨f, a, ?_, FrT.rf⟩
          have h9 := (hVR.2.2.1 g hg).2.2
          rcases (show σ (32 + g) = 0 ∨ σ (32 + g) = 1 by omega) with q | q
          · have q2 : ¬ σ (32 + g) = 1 := by omega
            simp only [q61_0, q61_1, q61_4, q61_7, q61_8, q61_9, q61_10, q61_13, q61_16, q61_17, q61_18, q61_19, q61_68, q61_69, q61_72, q61_73, q61_74, q61_75, q61_76, q61_79, q61_80, q61_81, q61_82, q61_83, q61_84, q61_87, q61_90, q61_91, q61_94, q61_95, q61_96, q61_97, q61_100, q61_101, q61_104, q61_105, q61_106, q61_109, q61_110, q61_113, q61_114, q61_115, q61_118, q61_119, q61_122, q61_123, q61_124, q61_127, q61_128, q61_131, q61_132, q61_133, q61_136, q61_137, q61_140, q61_141, q61_142, q61_145, q61_146, q61_147, q61_148, q61_151, q61_152, q61_155, q61_156, q61_157, isW_1, isC_2, Nat.reduceAdd, m_hasField isC_2 hR.1 hn, eq_true hv, ne0_1, ne0_2, ne0_3, ne0_4, ne0_5, ne0_6, ne0_7, ne0_8, ne0_9, ne0_10, ne0_11, ne0_12, ne1_0, ne1_2, ne1_3, ne1_4, ne1_5, ne1_6, ne1_7, ne1_8, ne1_9, ne1_10, ne1_11, ne1_12, ne2_0, ne2_1, ne2_3, ne2_4, ne2_5, ne2_6, ne2_7, ne2_8, ne2_9, ne2_10, ne2_11, ne2_12, ne3_0, ne3_1, ne3_2, ne3_4, ne3_5, ne3_6, ne3_7, ne3_8, ne3_9, ne3_10, ne3_11, ne3_12, ne4_0, ne4_1, ne4_2, ne4_3, ne4_5, ne4_6, ne4_7, ne4_8, ne4_9, ne4_10, ne4_11, ne4_12, ne5_0, ne5_1, ne5_2, ne5_3, ne5_4, ne5_6, ne5_7, ne5_8, ne5_9, ne5_10, ne5_11, ne5_12, ne6_0, ne6_1, ne6_2, ne6_3, ne6_4, ne6_5, ne6_7, ne6_8, ne6_9, ne6_10, ne6_11, ne6_12, ne7_0, ne7_1, ne7_2, ne7_3, ne7_4, ne7_5, ne7_6, ne7_8, ne7_9, ne7_10, ne7_11, ne7_12, ne8_0, ne8_1, ne8_2, ne8_3, ne8_4, ne8_5, ne8_6, ne8_7, ne8_9, ne8_10, ne8_11, ne8_12, ne9_0, ne9_1, ne9_2, ne9_3, ne9_4, ne9_5, ne9_6, ne9_7, ne9_8, ne9_10, ne9_11, ne9_12, ne10_0, ne10_1, ne10_2, ne10_3, ne10_4, ne10_5, ne10_6, ne10_7, ne10_8, ne10_9, ne10_11, ne10_12, ne11_0, ne11_1, ne11_2, ne11_3, ne11_4, ne11_5, ne11_6, ne11_7, ne11_8, ne11_9, ne11_10, ne11_12, ne12_0, ne12_1, ne12_2, ne12_3, ne12_4, ne12_5, ne12_6, ne12_7, ne12_8, ne12_9, ne12_10, ne12_11, zCall_some, Option.toList, List.cons_append, List.nil_append, zb_0, zb_1, zem, z01, z11, nI_add, ↓reduceIte, not_true_eq_false, not_false_eq_true, n0T, n1F, n11T, true_or, or_true, false_or, m_isAway isC_2 hVR hR hg, q2, q, show ¬ (0 : Nat) = 1 by decide]
          · simp only [q61_0, q61_1, q61_4, q61_7, q61_8, q61_9, q61_10, q61_13, q61_16, q61_17, q61_18, q61_19, q61_68, q61_69, q61_72, q61_73, q61_74, q61_75, q61_76, q61_79, q61_80, q61_81, q61_82, q61_83, q61_84, q61_87, q61_90, q61_91, q61_94, q61_95, q61_96, q61_97, q61_100, q61_101, q61_104, q61_105, q61_106, q61_109, q61_110, q61_113, q61_114, q61_115, q61_118, q61_119, q61_122, q61_123, q61_124, q61_127, q61_128, q61_131, q61_132, q61_133, q61_136, q61_137, q61_140, q61_141, q61_142, q61_145, q61_146, q61_147, q61_148, q61_151, q61_152, q61_155, q61_156, q61_157, isW_1, isC_2, Nat.reduceAdd, m_hasField isC_2 hR.1 hn, eq_true hv, ne0_1, ne0_2, ne0_3, ne0_4, ne0_5, ne0_6, ne0_7, ne0_8, ne0_9, ne0_10, ne0_11, ne0_12, ne1_0, ne1_2, ne1_3, ne1_4, ne1_5, ne1_6, ne1_7, ne1_8, ne1_9, ne1_10, ne1_11, ne1_12, ne2_0, ne2_1, ne2_3, ne2_4, ne2_5, ne2_6, ne2_7, ne2_8, ne2_9, ne2_10, ne2_11, ne2_12, ne3_0, ne3_1, ne3_2, ne3_4, ne3_5, ne3_6, ne3_7, ne3_8, ne3_9, ne3_10, ne3_11, ne3_12, ne4_0, ne4_1, ne4_2, ne4_3, ne4_5, ne4_6, ne4_7, ne4_8, ne4_9, ne4_10, ne4_11, ne4_12, ne5_0, ne5_1, ne5_2, ne5_3, ne5_4, ne5_6, ne5_7, ne5_8, ne5_9, ne5_10, ne5_11, ne5_12, ne6_0, ne6_1, ne6_2, ne6_3, ne6_4, ne6_5, ne6_7, ne6_8, ne6_9, ne6_10, ne6_11, ne6_12, ne7_0, ne7_1, ne7_2, ne7_3, ne7_4, ne7_5, ne7_6, ne7_8, ne7_9, ne7_10, ne7_11, ne7_12, ne8_0, ne8_1, ne8_2, ne8_3, ne8_4, ne8_5, ne8_6, ne8_7, ne8_9, ne8_10, ne8_11, ne8_12, ne9_0, ne9_1, ne9_2, ne9_3, ne9_4, ne9_5, ne9_6, ne9_7, ne9_8, ne9_10, ne9_11, ne9_12, ne10_0, ne10_1, ne10_2, ne10_3, ne10_4, ne10_5, ne10_6, ne10_7, ne10_8, ne10_9, ne10_11, ne10_12, ne11_0, ne11_1, ne11_2, ne11_3, ne11_4, ne11_5, ne11_6, ne11_7, ne11_8, ne11_9, ne11_10, ne11_12, ne12_0, ne12_1, ne12_2, ne12_3, ne12_4, ne12_5, ne12_6, ne12_7, ne12_8, ne12_9, ne12_10, ne12_11, zCall_some, Option.toList, List.cons_append, List.nil_append, zb_0, zb_1, zem, z01, z11, nI_add, ↓reduceIte, not_true_eq_false, not_false_eq_true, n0T, n1F, n11T, true_or, or_true, false_or, m_isAway isC_2 hVR hR hg, q]
        · skip
          by_cases e3 : what = nI 3
          · subst e3
            refine ⟨f1, a1, ?_, t3⟩
            simp only [q61_0, q61_1, q61_4, q61_7, q61_8, q61_9, q61_10, q61_13, q61_16, q61_17, q61_18, q61_19, q61_68, q61_69, q61_72, q61_73, q61_74, q61_75, q61_76, q61_79, q61_80, q61_81, q61_82, q61_83, q61_84, q61_87, q61_90, q61_91, q61_94, q61_95, q61_96, q61_97, q61_100, q61_101, q61_104, q61_105, q61_106, q61_109, q61_110, q61_113, q61_114, q61_115, q61_118, q61_119, q61_122, q61_123, q61_124, q61_127, q61_128, q61_131, q61_132, q61_133, q61_136, q61_137, q61_140, q61_141, q61_142, q61_145, q61_146, q61_147, q61_148, q61_151, q61_152, q61_155, q61_156, q61_157, isW_1, isC_2, Nat.reduceAdd, m_hasField isC_2 hR.1 hn, eq_true hv, ne0_1, ne0_2, ne0_3, ne0_4, ne0_5, ne0_6, ne0_7, ne0_8, ne0_9, ne0_10, ne0_11, ne0_12, ne1_0, ne1_2, ne1_3, ne1_4, ne1_5, ne1_6, ne1_7, ne1_8, ne1_9, ne1_10, ne1_11, ne1_12, ne2_0, ne2_1, ne2_3, ne2_4, ne2_5, ne2_6, ne2_7, ne2_8, ne2_9, ne2_10, ne2_11, ne2_12, ne3_0, ne3_1, ne3_2, ne3_4, ne3_5, ne3_6, ne3_7, ne3_8, ne3_9, ne3_10, ne3_11, ne3_12, ne4_0, ne4_1, ne4_2, ne4_3, ne4_5, ne4_6, ne4_7, ne4_8, ne4_9, ne4_10, ne4_11, ne4_12, ne5_0, ne5_1, ne5_2, ne5_3, ne5_4, ne5_6, ne5_7, ne5_8, ne5_9, ne5_10, ne5_11, ne5_12, ne6_0, ne6_1, ne6_2, ne6_3, ne6_4, ne6_5, ne6_7, ne6_8, ne6_9, ne6_10, ne6_11, ne6_12, ne7_0, ne7_1, ne7_2, ne7_3, ne7_4, ne7_5, ne7_6, ne7_8, ne7_9, ne7_10, ne7_11, ne7_12, ne8_0, ne8_1, ne8_2, ne8_3, ne8_4, ne8_5, ne8_6, ne8_7, ne8_9, ne8_10, ne8_11, ne8_12, ne9_0, ne9_1, ne9_2, ne9_3, ne9_4, ne9_5, ne9_6, ne9_7, ne9_8, ne9_10, ne9_11, ne9_12, ne10_0, ne10_1, ne10_2, ne10_3, ne10_4, ne10_5, ne10_6, ne10_7, ne10_8, ne10_9, ne10_11, ne10_12, ne11_0, ne11_1, ne11_2, ne11_3, ne11_4, ne11_5, ne11_6, ne11_7, ne11_8, ne11_9, ne11_10, ne11_12, ne12_0, ne12_1, ne12_2, ne12_3, ne12_4, ne12_5, ne12_6, ne12_7, ne12_8, ne12_9, ne12_10, ne12_11, zCall_some, Option.toList, List.cons_append, List.nil_append, zb_0, zb_1, zem, z01, z11, nI_add, ↓reduceIte, not_true_eq_false, not_false_eq_true, n0T, n1F, n11T, true_or, or_true, false_or, t1, m_hvOf hVR t2 hg]
          · skip
            by_cases e4 : what = nI 4
            · subst e4
              refine ⟨f1, a1, ?_, t3⟩
              simp only [q61_0, q61_1, q61_4, q61_7, q61_8, q61_9, q61_10, q61_13, q61_16, q61_17, q61_18, q61_19, q61_68, q61_69, q61_72, q61_73, q61_74, q61_75, q61_76, q61_79, q61_80, q61_81, q61_82, q61_83, q61_84, q61_87, q61_90, q61_91, q61_94, q61_95, q61_96, q61_97, q61_100, q61_101, q61_104, q61_105, q61_106, q61_109, q61_110, q61_113, q61_114, q61_115, q61_118, q61_119, q61_122, q61_123, q61_124, q61_127, q61_128, q61_131, q61_132, q61_133, q61_136, q61_137, q61_140, q61_141, q61_142, q61_145, q61_146, q61_147, q61_148, q61_151, q61_152, q61_155, q61_156, q61_157, isW_1, isC_2, Nat.reduceAdd, m_hasField isC_2 hR.1 hn, eq_true hv, ne0_1, ne0_2, ne0_3, ne0_4, ne0_5, ne0_6, ne0_7, ne0_8, ne0_9, ne0_10, ne0_11, ne0_12, ne1_0, ne1_2, ne1_3, ne1_4, ne1_5, ne1_6, ne1_7, ne1_8, ne1_9, ne1_10, ne1_11, ne1_12, ne2_0, ne2_1, ne2_3, ne2_4, ne2_5, ne2_6, ne2_7, ne2_8, ne2_9, ne2_10, ne2_11, ne2_12, ne3_0, ne3_1, ne3_2, ne3_4, ne3_5, ne3_6, ne3_7, ne3_8, ne3_9, ne3_10, ne3_11, ne3_12, ne4_0, ne4_1, ne4_2, ne4_3, ne4_5, ne4_6, ne4_7, ne4_8, ne4_9, ne4_10, ne4_11, ne4_12, ne5_0, ne5_1, ne5_2, ne5_3, ne5_4, ne5_6, ne5_7, ne5_8, ne5_9, ne5_10, ne5_11, ne5_12, ne6_0, ne6_1, ne6_2, ne6_3, ne6_4, ne6_5, ne6_7, ne6_8, ne6_9, ne6_10, ne6_11, ne6_12, ne7_0, ne7_1, ne7_2, ne7_3, ne7_4, ne7_5, ne7_6, ne7_8, ne7_9, ne7_10, ne7_11, ne7_12, ne8_0, ne8_1, ne8_2, ne8_3, ne8_4, ne8_5, ne8_6, ne8_7, ne8_9, ne8_10, ne8_11, ne8_12, ne9_0, ne9_1, ne9_2, ne9_3, ne9_4, ne9_5, ne9_6, ne9_7, ne9_8, ne9_10, ne9_11, ne9_12, ne10_0, ne10_1, ne10_2, ne10_3, ne10_4, ne10_5, ne10_6, ne10_7, ne10_8, ne10_9, ne10_11, ne10_12, ne11_0, ne11_1, ne11_2, ne11_3, ne11_4, ne11_5, ne11_6, ne11_7, ne11_8, ne11_9, ne11_10, ne11_12, ne12_0, ne12_1, ne12_2, ne12_3, ne12_4, ne12_5, ne12_6, ne12_7, ne12_8, ne12_9, ne12_10, ne12_11, zCall_some, Option.toList, List.cons_append, List.nil_append, zb_0, zb_1, zem, z01, z11, nI_add, ↓reduceIte, not_true_eq_false, not_false_eq_true, n0T, n1F, n11T, true_or, or_true, false_or, t1, m_startOf hVR t2 hg]
            · skip
              by_cases e5 : what = nI 5
              · subst e5
                refine ⟨f1, a1, ?_, t3⟩
                simp only [q61_0, q61_1, q61_4, q61_7, q61_8, q61_9, q61_10, q61_13, q61_16, q61_17, q61_18, q61_19, q61_68, q61_69, q61_72, q61_73, q61_74, q61_75, q61_76, q61_79, q61_80, q61_81, q61_82, q61_83, q61_84, q61_87, q61_90, q61_91, q61_94, q61_95, q61_96, q61_97, q61_100, q61_101, q61_104, q61_105, q61_106, q61_109, q61_110, q61_113, q61_114, q61_115, q61_118, q61_119, q61_122, q61_123, q61_124, q61_127, q61_128, q61_131, q61_132, q61_133, q61_136, q61_137, q61_140, q61_141, q61_142, q61_145, q61_146, q61_147, q61_148, q61_151, q61_152, q61_155, q61_156, q61_157, isW_1, isC_2, Nat.reduceAdd, m_hasField isC_2 hR.1 hn, eq_true hv, ne0_1, ne0_2, ne0_3, ne0_4, ne0_5, ne0_6, ne0_7, ne0_8, ne0_9, ne0_10, ne0_11, ne0_12, ne1_0, ne1_2, ne1_3, ne1_4, ne1_5, ne1_6, ne1_7, ne1_8, ne1_9, ne1_10, ne1_11, ne1_12, ne2_0, ne2_1, ne2_3, ne2_4, ne2_5, ne2_6, ne2_7, ne2_8, ne2_9, ne2_10, ne2_11, ne2_12, ne3_0, ne3_1, ne3_2, ne3_4, ne3_5, ne3_6, ne3_7, ne3_8, ne3_9, ne3_10, ne3_11, ne3_12, ne4_0, ne4_1, ne4_2, ne4_3, ne4_5, ne4_6, ne4_7, ne4_8, ne4_9, ne4_10, ne4_11, ne4_12, ne5_0, ne5_1, ne5_2, ne5_3, ne5_4, ne5_6, ne5_7, ne5_8, ne5_9, ne5_10, ne5_11, ne5_12, ne6_0, ne6_1, ne6_2, ne6_3, ne6_4, ne6_5, ne6_7, ne6_8, ne6_9, ne6_10, ne6_11, ne6_12, ne7_0, ne7_1, ne7_2, ne7_3, ne7_4, ne7_5, ne7_6, ne7_8, ne7_9, ne7_10, ne7_11, ne7_12, ne8_0, ne8_1, ne8_2, ne8_3, ne8_4, ne8_5, ne8_6, ne8_7, ne8_9, ne8_10, ne8_11, ne8_12, ne9_0, ne9_1, ne9_2, ne9_3, ne9_4, ne9_5, ne9_6, ne9_7, ne9_8, ne9_10, ne9_11, ne9_12, ne10_0, ne10_1, ne10_2, ne10_3, ne10_4, ne10_5, ne10_6, ne10_7, ne10_8, ne10_9, ne10_11, ne10_12, ne11_0, ne11_1, ne11_2, ne11_3, ne11_4, ne11_5, ne11_6, ne11_7, ne11_8, ne11_9, ne11_10, ne11_12, ne12_0, ne12_1, ne12_2, ne12_3, ne12_4, ne12_5, ne12_6, ne12_7, ne12_8, ne12_9, ne12_10, ne12_11, zCall_some, Option.toList, List.cons_append, List.nil_append, zb_0, zb_1, zem, z01, z11, nI_add, ↓reduceIte, not_true_eq_false, not_false_eq_true, n0T, n1F, n11T, true_or, or_true, false_or, t1, m_stopOf hVR t2 hg]
              · skip
                by_cases e6 : what = nI 6
                · subst e6
                  refine ⟨f1, a1, ?_, t3⟩
                  simp only [q61_0, q61_1, q61_4, q61_7, q61_8, q61_9, q61_10, q61_13, q61_16, q61_17, q61_18, q61_19, q61_68, q61_69, q61_72, q61_73, q61_74, q61_75, q61_76, q61_79, q61_80, q61_81, q61_82, q61_83, q61_84, q61_87, q61_90, q61_91, q61_94, q61_95, q61_96, q61_97, q61_100, q61_101, q61_104, q61_105, q61_106, q61_109, q61_110, q61_113, q61_114, q61_115, q61_118, q61_119, q61_122, q61_123, q61_124, q61_127, q61_128, q61_131, q61_132, q61_133, q61_136, q61_137, q61_140, q61_141, q61_142, q61_145, q61_146, q61_147, q61_148, q61_151, q61_152, q61_155, q61_156, q61_157, isW_1, isC_2, Nat.reduceAdd, m_hasField isC_2 hR.1 hn, eq_true hv, ne0_1, ne0_2, ne0_3, ne0_4, ne0_5, ne0_6, ne0_7, ne0_8, ne0_9, ne0_10, ne0_11, ne0_12, ne1_0, ne1_2, ne1_3, ne1_4, ne1_5, ne1_6, ne1_7, ne1_8, ne1_9, ne1_10, ne1_11, ne1_12, ne2_0, ne2_1, ne2_3, ne2_4, ne2_5, ne2_6, ne2_7, ne2_8, ne2_9, ne2_10, ne2_11, ne2_12, ne3_0, ne3_1, ne3_2, ne3_4, ne3_5, ne3_6, ne3_7, ne3_8, ne3_9, ne3_10, ne3_11, ne3_12, ne4_0, ne4_1, ne4_2, ne4_3, ne4_5, ne4_6, ne4_7, ne4_8, ne4_9, ne4_10, ne4_11, ne4_12, ne5_0, ne5_1, ne5_2, ne5_3, ne5_4, ne5_6, ne5_7, ne5_8, ne5_9, ne5_10, ne5_11, ne5_12, ne6_0, ne6_1, ne6_2, ne6_3, ne6_4, ne6_5, ne6_7, ne6_8, ne6_9, ne6_10, ne6_11, ne6_12, ne7_0, ne7_1, ne7_2, ne7_3, ne7_4, ne7_5, ne7_6, ne7_8, ne7_9, ne7_10, ne7_11, ne7_12, ne8_0, ne8_1, ne8_2, ne8_3, ne8_4, ne8_5, ne8_6, ne8_7, ne8_9, ne8_10, ne8_11, ne8_12, ne9_0, ne9_1, ne9_2, ne9_3, ne9_4, ne9_5, ne9_6, ne9_7, ne9_8, ne9_10, ne9_11, ne9_12, ne10_0, ne10_1, ne10_2, ne10_3, ne10_4, ne10_5, ne10_6, ne10_7, ne10_8, ne10_9, ne10_11, ne10_12, ne11_0, ne11_1, ne11_2, ne11_3, ne11_4, ne11_5, ne11_6, ne11_7, ne11_8, ne11_9, ne11_10, ne11_12, ne12_0, ne12_1, ne12_2, ne12_3, ne12_4, ne12_5, ne12_6, ne12_7, ne12_8, ne12_9, ne12_10, ne12_11, zCall_some, Option.toList, List.cons_append, List.nil_append, zb_0, zb_1, zem, z01, z11, nI_add, ↓reduceIte, not_true_eq_false, not_false_eq_true, n0T, n1F, n11T, true_or, or_true, false_or, t1, m_nightHours hVR hw hTr t2 hg]
                · skip
                  by_cases e7 : what = nI 7
                  · subst e7
                    refine ⟨f1, a1, ?_, t3⟩
                    simp only [q61_0, q61_1, q61_4, q61_7, q61_8, q61_9, q61_10, q61_13, q61_16, q61_17, q61_18, q61_19, q61_68, q61_69, q61_72, q61_73, q61_74, q61_75, q61_76, q61_79, q61_80, q61_81, q61_82, q61_83, q61_84, q61_87, q61_90, q61_91, q61_94, q61_95, q61_96, q61_97, q61_100, q61_101, q61_104, q61_105, q61_106, q61_109, q61_110, q61_113, q61_114, q61_115, q61_118, q61_119, q61_122, q61_123, q61_124, q61_127, q61_128, q61_131, q61_132, q61_133, q61_136, q61_137, q61_140, q61_141, q61_142, q61_145, q61_146, q61_147, q61_148, q61_151, q61_152, q61_155, q61_156, q61_157, isW_1, isC_2, Nat.reduceAdd, m_hasField isC_2 hR.1 hn, eq_true hv, ne0_1, ne0_2, ne0_3, ne0_4, ne0_5, ne0_6, ne0_7, ne0_8, ne0_9, ne0_10, ne0_11, ne0_12, ne1_0, ne1_2, ne1_3, ne1_4, ne1_5, ne1_6, ne1_7, ne1_8, ne1_9, ne1_10, ne1_11, ne1_12, ne2_0, ne2_1, ne2_3, ne2_4, ne2_5, ne2_6, ne2_7, ne2_8, ne2_9, ne2_10, ne2_11, ne2_12, ne3_0, ne3_1, ne3_2, ne3_4, ne3_5, ne3_6, ne3_7, ne3_8, ne3_9, ne3_10, ne3_11, ne3_12, ne4_0, ne4_1, ne4_2, ne4_3, ne4_5, ne4_6, ne4_7, ne4_8, ne4_9, ne4_10, ne4_11, ne4_12, ne5_0, ne5_1, ne5_2, ne5_3, ne5_4, ne5_6, ne5_7, ne5_8, ne5_9, ne5_10, ne5_11, ne5_12, ne6_0, ne6_1, ne6_2, ne6_3, ne6_4, ne6_5, ne6_7, ne6_8, ne6_9, ne6_10, ne6_11, ne6_12, ne7_0, ne7_1, ne7_2, ne7_3, ne7_4, ne7_5, ne7_6, ne7_8, ne7_9, ne7_10, ne7_11, ne7_12, ne8_0, ne8_1, ne8_2, ne8_3, ne8_4, ne8_5, ne8_6, ne8_7, ne8_9, ne8_10, ne8_11, ne8_12, ne9_0, ne9_1, ne9_2, ne9_3, ne9_4, ne9_5, ne9_6, ne9_7, ne9_8, ne9_10, ne9_11, ne9_12, ne10_0, ne10_1, ne10_2, ne10_3, ne10_4, ne10_5, ne10_6, ne10_7, ne10_8, ne10_9, ne10_11, ne10_12, ne11_0, ne11_1, ne11_2, ne11_3, ne11_4, ne11_5, ne11_6, ne11_7, ne11_8, ne11_9, ne11_10, ne11_12, ne12_0, ne12_1, ne12_2, ne12_3, ne12_4, ne12_5, ne12_6, ne12_7, ne12_8, ne12_9, ne12_10, ne12_11, zCall_some, Option.toList, List.cons_append, List.nil_append, zb_0, zb_1, zem, z01, z11, nI_add, ↓reduceIte, not_true_eq_false, not_false_eq_true, n0T, n1F, n11T, true_or, or_true, false_or, t1, m_hvOf hVR t2 hg, m_kept isC_2 hVR hR1 hg, pk_mul, waF]
                  · skip
                    by_cases e8 : what = nI 8
                    · subst e8
                      refine ⟨f1, a1, ?_, t3⟩
                      simp only [q61_0, q61_1, q61_4, q61_7, q61_8, q61_9, q61_10, q61_13, q61_16, q61_17, q61_18, q61_19, q61_68, q61_69, q61_72, q61_73, q61_74, q61_75, q61_76, q61_79, q61_80, q61_81, q61_82, q61_83, q61_84, q61_87, q61_90, q61_91, q61_94, q61_95, q61_96, q61_97, q61_100, q61_101, q61_104, q61_105, q61_106, q61_109, q61_110, q61_113, q61_114, q61_115, q61_118, q61_119, q61_122, q61_123, q61_124, q61_127, q61_128, q61_131, q61_132, q61_133, q61_136, q61_137, q61_140, q61_141, q61_142, q61_145, q61_146, q61_147, q61_148, q61_151, q61_152, q61_155, q61_156, q61_157, isW_1, isC_2, Nat.reduceAdd, m_hasField isC_2 hR.1 hn, eq_true hv, ne0_1, ne0_2, ne0_3, ne0_4, ne0_5, ne0_6, ne0_7, ne0_8, ne0_9, ne0_10, ne0_11, ne0_12, ne1_0, ne1_2, ne1_3, ne1_4, ne1_5, ne1_6, ne1_7, ne1_8, ne1_9, ne1_10, ne1_11, ne1_12, ne2_0, ne2_1, ne2_3, ne2_4, ne2_5, ne2_6, ne2_7, ne2_8, ne2_9, ne2_10, ne2_11, ne2_12, ne3_0, ne3_1, ne3_2, ne3_4, ne3_5, ne3_6, ne3_7, ne3_8, ne3_9, ne3_10, ne3_11, ne3_12, ne4_0, ne4_1, ne4_2, ne4_3, ne4_5, ne4_6, ne4_7, ne4_8, ne4_9, ne4_10, ne4_11, ne4_12, ne5_0, ne5_1, ne5_2, ne5_3, ne5_4, ne5_6, ne5_7, ne5_8, ne5_9, ne5_10, ne5_11, ne5_12, ne6_0, ne6_1, ne6_2, ne6_3, ne6_4, ne6_5, ne6_7, ne6_8, ne6_9, ne6_10, ne6_11, ne6_12, ne7_0, ne7_1, ne7_2, ne7_3, ne7_4, ne7_5, ne7_6, ne7_8, ne7_9, ne7_10, ne7_11, ne7_12, ne8_0, ne8_1, ne8_2, ne8_3, ne8_4, ne8_5, ne8_6, ne8_7, ne8_9, ne8_10, ne8_11, ne8_12, ne9_0, ne9_1, ne9_2, ne9_3, ne9_4, ne9_5, ne9_6, ne9_7, ne9_8, ne9_10, ne9_11, ne9_12, ne10_0, ne10_1, ne10_2, ne10_3, ne10_4, ne10_5, ne10_6, ne10_7, ne10_8, ne10_9, ne10_11, ne10_12, ne11_0, ne11_1, ne11_2, ne11_3, ne11_4, ne11_5, ne11_6, ne11_7, ne11_8, ne11_9, ne11_10, ne11_12, ne12_0, ne12_1, ne12_2, ne12_3, ne12_4, ne12_5, ne12_6, ne12_7, ne12_8, ne12_9, ne12_10, ne12_11, zCall_some, Option.toList, List.cons_append, List.nil_append, zb_0, zb_1, zem, z01, z11, nI_add, ↓reduceIte, not_true_eq_false, not_false_eq_true, n0T, n1F, n11T, true_or, or_true, false_or, t1, m_placeOf t2 (show g < 8 by omega)]
                    · skip
                      refine ⟨f, a, ?_, FrT.rf⟩
                      simp only [q61_0, q61_1, q61_4, q61_7, q61_8, q61_9, q61_10, q61_13, q61_16, q61_17, q61_18, q61_19, q61_68, q61_69, q61_72, q61_73, q61_74, q61_75, q61_76, q61_79, q61_80, q61_81, q61_82, q61_83, q61_84, q61_87, q61_90, q61_91, q61_94, q61_95, q61_96, q61_97, q61_100, q61_101, q61_104, q61_105, q61_106, q61_109, q61_110, q61_113, q61_114, q61_115, q61_118, q61_119, q61_122, q61_123, q61_124, q61_127, q61_128, q61_131, q61_132, q61_133, q61_136, q61_137, q61_140, q61_141, q61_142, q61_145, q61_146, q61_147, q61_148, q61_151, q61_152, q61_155, q61_156, q61_157, isW_1, isC_2, Nat.reduceAdd, m_hasField isC_2 hR.1 hn, eq_true hv, ne0_1, ne0_2, ne0_3, ne0_4, ne0_5, ne0_6, ne0_7, ne0_8, ne0_9, ne0_10, ne0_11, ne0_12, ne1_0, ne1_2, ne1_3, ne1_4, ne1_5, ne1_6, ne1_7, ne1_8, ne1_9, ne1_10, ne1_11, ne1_12, ne2_0, ne2_1, ne2_3, ne2_4, ne2_5, ne2_6, ne2_7, ne2_8, ne2_9, ne2_10, ne2_11, ne2_12, ne3_0, ne3_1, ne3_2, ne3_4, ne3_5, ne3_6, ne3_7, ne3_8, ne3_9, ne3_10, ne3_11, ne3_12, ne4_0, ne4_1, ne4_2, ne4_3, ne4_5, ne4_6, ne4_7, ne4_8, ne4_9, ne4_10, ne4_11, ne4_12, ne5_0, ne5_1, ne5_2, ne5_3, ne5_4, ne5_6, ne5_7, ne5_8, ne5_9, ne5_10, ne5_11, ne5_12, ne6_0, ne6_1, ne6_2, ne6_3, ne6_4, ne6_5, ne6_7, ne6_8, ne6_9, ne6_10, ne6_11, ne6_12, ne7_0, ne7_1, ne7_2, ne7_3, ne7_4, ne7_5, ne7_6, ne7_8, ne7_9, ne7_10, ne7_11, ne7_12, ne8_0, ne8_1, ne8_2, ne8_3, ne8_4, ne8_5, ne8_6, ne8_7, ne8_9, ne8_10, ne8_11, ne8_12, ne9_0, ne9_1, ne9_2, ne9_3, ne9_4, ne9_5, ne9_6, ne9_7, ne9_8, ne9_10, ne9_11, ne9_12, ne10_0, ne10_1, ne10_2, ne10_3, ne10_4, ne10_5, ne10_6, ne10_7, ne10_8, ne10_9, ne10_11, ne10_12, ne11_0, ne11_1, ne11_2, ne11_3, ne11_4, ne11_5, ne11_6, ne11_7, ne11_8, ne11_9, ne11_10, ne11_12, ne12_0, ne12_1, ne12_2, ne12_3, ne12_4, ne12_5, ne12_6, ne12_7, ne12_8, ne12_9, ne12_10, ne12_11, zCall_some, Option.toList, List.cons_append, List.nil_append, zb_0, zb_1, zem, z01, z11, nI_add, ↓reduceIte, not_true_eq_false, not_false_eq_true, n0T, n1F, n11T, true_or, or_true, false_or, e0, e1, e2, e3, e4, e5, e6, e7, e8]
  · refine ⟨f, a, ?_, FrT.rf⟩
    rw [if_neg hv]
    simp only [q61_0, q61_1, q61_4, q61_7, q61_8, q61_9, q61_10, q61_13, q61_16, q61_17, q61_18, q61_19, q61_68, q61_69, q61_72, q61_73, q61_74, q61_75, q61_76, q61_79, q61_80, q61_81, q61_82, q61_83, q61_84, q61_87, q61_90, q61_91, q61_94, q61_95, q61_96, q61_97, q61_100, q61_101, q61_104, q61_105, q61_106, q61_109, q61_110, q61_113, q61_114, q61_115, q61_118, q61_119, q61_122, q61_123, q61_124, q61_127, q61_128, q61_131, q61_132, q61_133, q61_136, q61_137, q61_140, q61_141, q61_142, q61_145, q61_146, q61_147, q61_148, q61_151, q61_152, q61_155, q61_156, q61_157, isW_1, isC_2, Nat.reduceAdd, m_hasField isC_2 hR.1 hn, eq_false hv, zCall_some, Option.toList, List.cons_append, List.nil_append, zb_0, zb_1, zem, z01, z11, nI_add, ↓reduceIte, not_true_eq_false, not_false_eq_true, n0T, n1F, n11T, true_or, or_true, false_or]
theorem x_turn {sc : Int32 × (Int32 → Int32)} {f : zF} {a : zA} {j : zJ} {d : Nat} {σ : Nat → Nat} {k : Int32} (hW : WR 1 σ f a) (hV : VS σ) : ∃ (f' : zF) (a' : zA), cf sc (d + 7) 64 [.ref 0, .int k] f a j = some (some (.int (sTurn σ k)), f', a', j) ∧ FrT f f' a a' := by
  have hVR := hV.1.1
  have hn := hVR.1
  have hl := oL_le hVR (σ 3)
  have hll := ln_len hVR
  obtain ⟨f1, a1, t1, t2, t3⟩ := m_turnsNow (sc := sc) (d := d) (j := j) hW hV
  refine ⟨f1, a1, ?_, t3⟩
  have e := zb_iff (has_iff (v := k) (n := (oL σ (σ 3)).length) (by omega))
  rw [en64]
  unfold sTurn
  by_cases hv : zHas k (oL σ (σ 3)).length
  · obtain ⟨g, hg, rfl⟩ := zHas_of (by omega) hv
    have ec : (nI g).toNatClampNeg = g := nI_clamp (by omega)
    have ix : zIx 21 56 (nI g) := ix56 (by omega)
    have er := t2.2.2.2.2.2.2.1 g (by omega)
    rw [if_pos hv, ec]
    simp only [q64_0, q64_1, q64_4, q64_5, q64_6, q64_7, q64_8, q64_11, q64_12, q64_13, q64_16, q64_19, q64_20, q64_23, q64_24, q64_25, q64_28, q64_29, t1, t2.2.1, m_isWithin, e, eq_true hv, ix, er, zCall_some, Option.toList, List.cons_append, List.nil_append, zb_0, zb_1, zem, z01, z11, nI_add, ↓reduceIte, not_true_eq_false, not_false_eq_true, n0T, n1F, n11T, true_or, or_true, false_or]
    try rfl
  · rw [if_neg hv]
    simp only [q64_0, q64_1, q64_4, q64_5, q64_6, q64_7, q64_8, q64_11, q64_12, q64_13, q64_16, q64_19, q64_20, q64_23, q64_24, q64_25, q64_28, q64_29, t1, t2.2.1, m_isWithin, e, eq_false hv, zCall_some, Option.toList, List.cons_append, List.nil_append, zb_0, zb_1, zem, z01, z11, nI_add, ↓reduceIte, not_true_eq_false, not_false_eq_true, n0T, n1F, n11T, true_or, or_true, false_or]
theorem x_lag {sc : Int32 × (Int32 → Int32)} {f : zF} {a : zA} {j : zJ} {d : Nat} {σ : Nat → Nat} {k : Int32} (hW : WR 1 σ f a) (hV : VS σ) : ∃ (f' : zF) (a' : zA), cf sc (d + 7) 65 [.ref 0, .int k] f a j = some (some (.int (sLag σ k)), f', a', j) ∧ FrT f f' a a' := by
  have hVR := hV.1.1
  have hn := hVR.1
  have hl := oL_le hVR (σ 3)
  have hll := ln_len hVR
  obtain ⟨f1, a1, t1, t2, t3⟩ := m_turnsNow (sc := sc) (d := d) (j := j) hW hV
  refine ⟨f1, a1, ?_, t3⟩
  have e := zb_iff (has_iff (v := k) (n := (oL σ (σ 3)).length) (by omega))
  rw [en65]
  unfold sLag
  by_cases hv : zHas k (oL σ (σ 3)).length
  · obtain ⟨g, hg, rfl⟩ := zHas_of (by omega) hv
    have ec : (nI g).toNatClampNeg = g := nI_clamp (by omega)
    have ix : zIx 21 57 (nI g) := ix57 (by omega)
    have er := t2.2.2.2.2.2.2.2.1 g (by omega)
    rw [if_pos hv, ec]
    simp only [q65_0, q65_1, q65_4, q65_5, q65_6, q65_7, q65_8, q65_11, q65_12, q65_13, q65_16, q65_19, q65_20, q65_23, q65_24, q65_25, q65_28, q65_29, t1, t2.2.1, m_isWithin, e, eq_true hv, ix, er, zCall_some, Option.toList, List.cons_append, List.nil_append, zb_0, zb_1, zem, z01, z11, nI_add, ↓reduceIte, not_true_eq_false, not_false_eq_true, n0T, n1F, n11T, true_or, or_true, false_or]
    try rfl
  · rw [if_neg hv]
    simp only [q65_0, q65_1, q65_4, q65_5, q65_6, q65_7, q65_8, q65_11, q65_12, q65_13, q65_16, q65_19, q65_20, q65_23, q65_24, q65_25, q65_28, q65_29, t1, t2.2.1, m_isWithin, e, eq_false hv, zCall_some, Option.toList, List.cons_append, List.nil_append, zb_0, zb_1, zem, z01, z11, nI_add, ↓reduceIte, not_true_eq_false, not_false_eq_true, n0T, n1F, n11T, true_or, or_true, false_or]
theorem x_line {sc : Int32 × (Int32 → Int32)} {f : zF} {a : zA} {j : zJ} {d : Nat} {σ : Nat → Nat} {k : Int32} (hW : WR 1 σ f a) (hV : VS σ) : ∃ (f' : zF) (a' : zA), cf sc (d + 7) 66 [.ref 0, .int k] f a j = some (some (.int (sLine σ k)), f', a', j) ∧ FrT f f' a a' := by
  have hVR := hV.1.1
  have hn := hVR.1
  have hl := oL_le hVR (σ 3)
  have hll := ln_len hVR
  obtain ⟨f1, a1, t1, t2, t3⟩ := m_turnsNow (sc := sc) (d := d) (j := j) hW hV
  refine ⟨f1, a1, ?_, t3⟩
  have e := zb_iff (has_iff (v := k) (n := (σ 0)) (by omega))
  rw [en66]
  unfold sLine
  by_cases hv : zHas k (σ 0)
  · obtain ⟨g, hg, rfl⟩ := zHas_of (by omega) hv
    have ec : (nI g).toNatClampNeg = g := nI_clamp (by omega)
    have ix : zIx 21 55 (nI g) := ix55 (by omega)
    have er := t2.2.2.2.2.2.1 g (by omega)
    rw [if_pos hv, ec]
    simp only [q66_0, q66_1, q66_4, q66_5, q66_6, q66_7, q66_8, q66_11, q66_12, q66_13, q66_16, q66_19, q66_20, q66_23, q66_24, q66_25, q66_28, q66_29, t1, t2.1, m_isWithin, e, eq_true hv, ix, er, zCall_some, Option.toList, List.cons_append, List.nil_append, zb_0, zb_1, zem, z01, z11, nI_add, ↓reduceIte, not_true_eq_false, not_false_eq_true, n0T, n1F, n11T, true_or, or_true, false_or]
    try rfl
  · rw [if_neg hv]
    simp only [q66_0, q66_1, q66_4, q66_5, q66_6, q66_7, q66_8, q66_11, q66_12, q66_13, q66_16, q66_19, q66_20, q66_23, q66_24, q66_25, q66_28, q66_29, t1, t2.1, m_isWithin, e, eq_false hv, zCall_some, Option.toList, List.cons_append, List.nil_append, zb_0, zb_1, zem, z01, z11, nI_add, ↓reduceIte, not_true_eq_false, not_false_eq_true, n0T, n1F, n11T, true_or, or_true, false_or]
theorem m_fieldAt {sc : Int32 × (Int32 → Int32)} {f : zF} {a : zA} {j : zJ} {d t : Nat} {σ : Nat → Nat} (hV : VS σ) (ht : t < 96) (hT : TuO σ (σ 3) true f a) : ∃ r : Int32, cf sc (d + 1) 47 [.ref 54, .int (nI t)] f a j = some (some (.int r), f, a, j) ∧ WhoP σ t r := by
  have hVR := hV.1.1
  have hn := hVR.1
  have hl := oL_le hVR (σ 3)
  have hTr : true = true → TrOK σ (σ 3) := fun _ => hV.2.1
  rw [en47, q47_0, q47_1]
  have key : ∀ m i, i + m = (oL σ (σ 3)).length → (∀ q, q < i → ¬ (stN σ (σ 3) true q ≤ t ∧ t < stN σ (σ 3) true q + hvOf σ (σ 3) true ((oL σ (σ 3)).getD q 0))) → ∃ r : Int32, rn sc (cf sc d) 47 2 [.ref 54, .int (nI t), .int (nI i)] [] f a j = some (some (.int r), f, a, j) ∧ WhoP σ t r := by
    intro m
    induction m with
    | zero =>
      intro i hi hno
      have hi : i = (oL σ (σ 3)).length := by omega
      subst hi
      have c1 : nI (oL σ (σ 3)).length ≤ nI (oL σ (σ 3)).length := nI_le (Nat.le_refl _) (by omega)
      refine ⟨-5, ?_, Or.inr ⟨hno, rfl⟩⟩
      simp only [q47_2, q47_3, q47_4, q47_7, q47_43, q47_45, hT.2.1, c1, zCall_some, Option.toList, List.cons_append, List.nil_append, zb_0, zb_1, zem, z01, z11, nI_add, ↓reduceIte, not_true_eq_false, not_false_eq_true, n0T, n1F, n11T, true_or, or_true, false_or]
    | succ m ih =>
      intro i hi hno
      have hil : i < (oL σ (σ 3)).length := by omega
      have hg := oL_lt hVR hil
      have c1 : ¬ nI (oL σ (σ 3)).length ≤ nI i := nI_ge hil (by omega)
      have ix1 : zIx 21 56 (nI i) := ix56 (by omega)
      have ix2 : zIx 21 62 (nI i) := ix62 (by omega)
      have ix3 : zIx 21 63 (nI i) := ix63 (by omega)
      have e1 := hT.2.2.2.2.2.2.1 i hil
      obtain ⟨e2, e3⟩ := hT.2.2.2.2.2.2.2.2.2.2.1 i hil
      have hst := st_le hVR hTr hil
      have hhv := hv_97 hVR hTr hg
      have e2 : a 62 (nI i) = nI (stN σ (σ 3) true i) := e2
      have e3 : a 63 (nI i) = nI (stN σ (σ 3) true i + hvOf σ (σ 3) true ((oL σ (σ 3)).getD i 0)) := e3
      rw [q47_2]
      by_cases h1 : stN σ (σ 3) true i ≤ t
      · have k1 : ¬ nI t < nI (stN σ (σ 3) true i) := nI_nlt h1 (by omega)
        by_cases h2 : t < stN σ (σ 3) true i + hvOf σ (σ 3) true ((oL σ (σ 3)).getD i 0)
        · have k2 : ¬ nI (stN σ (σ 3) true i + hvOf σ (σ 3) true ((oL σ (σ 3)).getD i 0)) ≤ nI t := nI_ge h2 (by omega)
          refine ⟨nI ((oL σ (σ 3)).getD i 0), ?_, Or.inl ⟨i, hil, h1, h2, rfl⟩⟩
          simp only [q47_0, q47_1, q47_3, q47_4, q47_7, q47_10, q47_11, q47_12, q47_15, q47_16, q47_17, q47_20, q47_21, q47_22, q47_25, q47_26, q47_27, q47_30, q47_31, q47_34, q47_35, q47_36, q47_37, q47_40, q47_43, q47_45, hT.2.1, c1, ix1, ix2, ix3, e1, e2, e3, k1, k2, zCall_some, Option.toList, List.cons_append, List.nil_append, zb_0, zb_1, zem, z01, z11, nI_add, ↓reduceIte, not_true_eq_false, not_false_eq_true, n0T, n1F, n11T, true_or, or_true, false_or]
        · have k2 : nI (stN σ (σ 3) true i + hvOf σ (σ 3) true ((oL σ (σ 3)).getD i 0)) ≤ nI t := nI_le (by omega) (by omega)
          obtain ⟨r, g1, g2⟩ := ih (i + 1) (by omega) (fun q hq => by
            by_cases e : q = i
            · rw [e]; exact fun z => h2 z.2
            · exact hno q (by omega))
          refine ⟨r, ?_, g2⟩
          rw [← g1]
          simp only [q47_0, q47_1, q47_3, q47_4, q47_7, q47_10, q47_11, q47_12, q47_15, q47_16, q47_17, q47_20, q47_21, q47_22, q47_25, q47_26, q47_27, q47_30, q47_31, q47_34, q47_35, q47_36, q47_37, q47_40, q47_43, q47_45, hT.2.1, c1, ix1, ix2, ix3, e1, e2, e3, k1, k2, zCall_some, Option.toList, List.cons_append, List.nil_append, zb_0, zb_1, zem, z01, z11, nI_add, ↓reduceIte, not_true_eq_false, not_false_eq_true, n0T, n1F, n11T, true_or, or_true, false_or]
      · have k1 : nI t < nI (stN σ (σ 3) true i) := nI_lt (by omega) (by omega)
        obtain ⟨r, g1, g2⟩ := ih (i + 1) (by omega) (fun q hq => by
          by_cases e : q = i
          · rw [e]; exact fun z => h1 z.1
          · exact hno q (by omega))
        refine ⟨r, ?_, g2⟩
        rw [← g1]
        simp only [q47_0, q47_1, q47_3, q47_4, q47_7, q47_10, q47_11, q47_12, q47_15, q47_16, q47_17, q47_20, q47_21, q47_22, q47_25, q47_26, q47_27, q47_30, q47_31, q47_34, q47_35, q47_36, q47_37, q47_40, q47_43, q47_45, hT.2.1, c1, ix1, ix2, e1, e2, k1, zCall_some, Option.toList, List.cons_append, List.nil_append, zb_0, zb_1, zem, z01, z11, nI_add, ↓reduceIte, not_true_eq_false, not_false_eq_true, n0T, n1F, n11T, true_or, or_true, false_or]
  exact key (oL σ (σ 3)).length 0 (by omega) (fun q hq => by omega)
theorem x_who {sc : Int32 × (Int32 → Int32)} {f : zF} {a : zA} {j : zJ} {d : Nat} {σ : Nat → Nat} {t : Int32} (hW : WR 1 σ f a) (hV : VS σ) : ∃ (r : Int32) (f' : zF) (a' : zA), cf sc (d + 7) 67 [.ref 0, .int t] f a j = some (some (.int r), f', a', j) ∧ (if zBtw t 0 95 then WhoP σ t.toNatClampNeg r else r = -2) ∧ FrT f f' a a' := by
  rw [en67]
  by_cases hv : zBtw t 0 95
  · obtain ⟨q, h1, h2, rfl⟩ := zBtw_of (by omega) (by omega) hv
    obtain ⟨f1, a1, t1, t2, t3⟩ := m_turnsNow (sc := sc) (d := d) (j := j) hW hV
    obtain ⟨r, g1, g2⟩ := m_fieldAt (sc := sc) (d := d + 5) (j := j) (t := q) hV (by omega) t2
    refine ⟨r, f1, a1, ?_, ?_, t3⟩
    · simp only [q67_0, q67_1, q67_2, q67_4, q67_7, q67_10, q67_12, q67_13, q67_14, q67_17, q67_18, q67_21, m_isWithin, eq_true hv, t1, g1, zCall_some, Option.toList, List.cons_append, List.nil_append, zb_0, zb_1, zem, z01, z11, nI_add, ↓reduceIte, not_true_eq_false, not_false_eq_true, n0T, n1F, n11T, true_or, or_true, false_or]
    · rw [if_pos hv, nI_clamp (by omega)]
      exact g2
  · refine ⟨-2, f, a, ?_, ?_, FrT.rf⟩
    · simp only [q67_0, q67_1, q67_2, q67_4, q67_7, q67_10, q67_12, q67_13, q67_14, q67_17, q67_18, q67_21, m_isWithin, eq_false hv, zCall_some, Option.toList, List.cons_append, List.nil_append, zb_0, zb_1, zem, z01, z11, nI_add, ↓reduceIte, not_true_eq_false, not_false_eq_true, n0T, n1F, n11T, true_or, or_true, false_or]
    · rw [if_neg hv]
theorem x_shared {sc : Int32 × (Int32 → Int32)} {f : zF} {a : zA} {j : zJ} {d : Nat} {σ : Nat → Nat} {n v : Int32} (hW : WR 1 σ f a) (hV : VS σ) : ∃ (f' : zF) (a' : zA), cf sc (d + 3) 68 [.ref 0, .int n, .int v] f a j = some (some (.int (sShared σ n v)), f', a', j) ∧ FrT f f' a a' := by
  have hVR := hV.1.1
  have hn := hVR.1
  have hR : CR0 2 σ f a := hW.1
  rw [en68]
  unfold sShared
  by_cases hv : zHas v (σ 0)
  · rw [if_pos hv]
    by_cases hb : zBtw n 0 999
    · obtain ⟨q, h1, h2, rfl⟩ := zBtw_of (by omega) (by omega) hb
      obtain ⟨g, hg, rfl⟩ := zHas_of (by omega) hv
      obtain ⟨a1, s1, s2, s3⟩ := m_shareOut (sc := sc) (d := d) (f := f) (j := j) (a := a) (w := q) (S := alB σ) (x := (nI 1 <<< (nI (σ 0) &&& 31)) - nI 1) isC_2 hVR (by omega) (fun g hg => by rw [bt_all _ hn g (by omega)]; rfl) (fun g hg => by unfold alB; simp; omega) hR
      have ix : zIx 21 58 (nI g) := ix58 (by omega)
      refine ⟨f, a1, ?_, fun _ _ => rfl, fun k hk => s3 k (by omega) (by omega)⟩
      rw [if_pos hb, nI_clamp (n := q) (by omega), nI_clamp (n := g) (by omega)]
      simp only [q68_0, q68_1, q68_4, q68_7, q68_8, q68_11, q68_14, q68_15, q68_16, q68_17, q68_18, q68_21, q68_24, q68_27, q68_29, q68_30, q68_31, q68_34, q68_35, q68_38, q68_41, q68_42, q68_43, q68_46, q68_49, q68_52, q68_55, q68_56, q68_59, q68_62, q68_63, q68_64, isW_1, isC_2, Nat.reduceAdd, m_hasField isC_2 hR.1 hn, m_isWithin, eq_true hv, eq_true hb, m_allBits isC_2 hR, s1, ix, s2 g (by omega), zCall_some, Option.toList, List.cons_append, List.nil_append, zb_0, zb_1, zem, z01, z11, nI_add, ↓reduceIte, not_true_eq_false, not_false_eq_true, n0T, n1F, n11T, true_or, or_true, false_or]
    · refine ⟨f, a, ?_, FrT.rf⟩
      rw [if_neg hb]
      simp only [q68_0, q68_1, q68_4, q68_7, q68_8, q68_11, q68_14, q68_15, q68_16, q68_17, q68_18, q68_21, q68_24, q68_27, q68_29, q68_30, q68_31, q68_34, q68_35, q68_38, q68_41, q68_42, q68_43, q68_46, q68_49, q68_52, q68_55, q68_56, q68_59, q68_62, q68_63, q68_64, isW_1, isC_2, Nat.reduceAdd, m_hasField isC_2 hR.1 hn, m_isWithin, eq_true hv, eq_false hb, zCall_some, Option.toList, List.cons_append, List.nil_append, zb_0, zb_1, zem, z01, z11, nI_add, ↓reduceIte, not_true_eq_false, not_false_eq_true, n0T, n1F, n11T, true_or, or_true, false_or]
  · refine ⟨f, a, ?_, FrT.rf⟩
    rw [if_neg hv]
    simp only [q68_0, q68_1, q68_4, q68_7, q68_8, q68_11, q68_14, q68_15, q68_16, q68_17, q68_18, q68_21, q68_24, q68_27, q68_29, q68_30, q68_31, q68_34, q68_35, q68_38, q68_41, q68_42, q68_43, q68_46, q68_49, q68_52, q68_55, q68_56, q68_59, q68_62, q68_63, q68_64, isW_1, isC_2, Nat.reduceAdd, m_hasField isC_2 hR.1 hn, eq_false hv, zCall_some, Option.toList, List.cons_append, List.nil_append, zb_0, zb_1, zem, z01, z11, nI_add, ↓reduceIte, not_true_eq_false, not_false_eq_true, n0T, n1F, n11T, true_or, or_true, false_or]
theorem m_bitsOfLess {sc : Int32 × (Int32 → Int32)} {f : zF} {a : zA} {j : zJ} {d : Nat} {σ : Nat → Nat} (hW : WR 1 σ f a) (hV : VS σ) : ∃ (f' : zF) (a' : zA), cf sc (d + 7) 102 [.ref 0] f a j = some (some (.int (lsB σ)), f', a', j) ∧ FrT f f' a a' := by
  have hVR := hV.1.1
  have hn := hVR.1
  have h96 := hV.1.2.2.1
  have e7 : f 2 7 = nI (σ 1) := hW.2.1.1
  obtain ⟨f1, a1, t1, t2, t3⟩ := m_turnsWere (sc := sc) (d := d) (j := j) (h := σ 1) hW hV (by omega)
  rw [zup_self] at t2
  have key0 := zLoopP (n := 8) (g := fun s : (Nat × zA) => rn sc (cf sc (d + 6)) 102 19 [.ref 0, .int (nI (σ 1)), .ref 54, .int (nI s.1), .null, .null] [] f1 s.2 j) (P := fun i s => s.1 = i ∧ (∀ q, q < i → s.2 64 (nI q) = a1 59 (nI q)) ∧ ∀ k, k ≠ 64 → s.2 k = a1 k) (by
    intro i s hi hP
    obtain ⟨i', a2⟩ := s
    obtain ⟨rfl, h1, h2⟩ := hP
    dsimp only at h1 h2 hi
    have c1 : ¬ nI 8 ≤ nI i' := nI_ge hi (by omega)
    have ix : zIx 21 64 (nI i') := ix64 hi
    refine ⟨(i' + 1, zuA a2 64 (nI i') (a2 59 (nI i'))), ⟨rfl, fun q hq => ?_, fun k hk => (zuA_nk hk).trans (h2 k hk)⟩, ?_⟩
    · dsimp only
      by_cases e : q = i'
      · rw [e, h2 59 (by omega)]
        exact zuA_eq
      · rw [zuA_ni (nI_ne (by omega) (by omega) e)]
        exact h1 q (by omega)
    · dsimp only
      rw [q102_19]
      simp only [q102_20, q102_22, q102_25, q102_26, q102_29, q102_30, q102_31, q102_32, q102_35, q102_36, q102_39, c1, ix, m_hoursOf hi, zCall_some, Option.toList, List.cons_append, List.nil_append, zb_0, zb_1, zem, z01, z11, nI_add, ↓reduceIte, not_true_eq_false, not_false_eq_true, n0T, n1F, n11T, true_or, or_true, false_or]) (0, a1) ⟨rfl, fun q hq => by omega, fun _ _ => rfl⟩
  obtain ⟨⟨i, a3⟩, ⟨hi, k1, k2⟩, ek⟩ := key0
  dsimp only at k1 k2 hi ek
  subst hi
  have hW1 : WR 1 σ f1 a3 := hW.of isW_1 (fun k hk => t3.1 k (by omega)) (fun k hk => by rw [k2 k (by omega)]; exact t3.2 k (by omega))
  obtain ⟨f2, a2, u1, u2, u3, u4⟩ := m_turnsWere64 (sc := sc) (d := d) (j := j) (h := σ 1 + 1) hW1 hV (by omega)
  have eu : ∀ i, i ≠ 1 → i ≠ 2 → i ≠ 3 → zup σ 1 (σ 1 + 1) i = σ i := fun i q _ _ => zup_ne q
  have hVu : VR (zup σ 1 (σ 1 + 1)) := hVR.up eu (by rw [zup_eq]; omega)
  have z0 : zup σ 1 (σ 1 + 1) 0 = σ 0 := zup_ne (by omega)
  have key := zLoop (n := σ 0) (g := fun i => rn sc (cf sc (d + 6)) 102 56 [.ref 0, .int (nI (σ 1)), .ref 54, .ref 54, .int (btS (fun g => decide (hvOf (zup σ 1 (σ 1 + 1)) (σ 3) false g < hvOf σ (σ 3) false g)) i), .int (nI i)] [] f2 a2 j) (by
    intro i hi
    have c1 : ¬ nI 8 ≤ nI i := nI_ge (by omega) (by omega)
    have ix2 : zIx 21 64 (nI i) := ix64 (by omega)
    have r1 := m_hvOf (sc := sc) (d := d + 3) (j := j) hVu u2 (g := i) (by rw [z0]; exact hi)
    have r2 : a2 64 (nI i) = nI (hvOf σ (σ 3) false i) := by
      rw [u4, k1 i (by omega)]
      exact t2.2.2.2.2.2.2.2.2.1 i hi
    have b1 := hv_97 hVu (w := σ 3) (tr := false) (fun q => by cases q) (g := i) (by rw [z0]; exact hi)
    have b2 := hv_97 hVR (w := σ 3) (tr := false) (fun q => by cases q) hi
    rw [q102_56]
    show _ = rn sc (cf sc (d + 6)) 102 56 [.ref 0, .int (nI (σ 1)), .ref 54, .ref 54, .int (btS (fun g => decide (hvOf (zup σ 1 (σ 1 + 1)) (σ 3) false g < hvOf σ (σ 3) false g)) i ||| (if decide (hvOf (zup σ 1 (σ 1 + 1)) (σ 3) false i < hvOf σ (σ 3) false i) = true then nI 1 <<< (nI i &&& 31) else nI 0)), .int (nI (i + 1))] [] f2 a2 j
    by_cases h : hvOf (zup σ 1 (σ 1 + 1)) (σ 3) false i < hvOf σ (σ 3) false i
    · have k1 : ¬ nI (hvOf σ (σ 3) false i) ≤ nI (hvOf (zup σ 1 (σ 1 + 1)) (σ 3) false i) := nI_ge h (by omega)
      simp only [q102_0, q102_1, q102_4, q102_7, q102_10, q102_11, q102_12, q102_13, q102_16, q102_17, q102_18, q102_19, q102_20, q102_22, q102_25, q102_26, q102_29, q102_30, q102_31, q102_32, q102_35, q102_36, q102_39, q102_42, q102_43, q102_44, q102_45, q102_46, q102_49, q102_50, q102_51, q102_53, q102_54, q102_58, q102_60, q102_63, q102_64, q102_66, q102_69, q102_70, q102_73, q102_75, q102_76, q102_79, q102_81, q102_82, q102_84, q102_85, q102_86, q102_88, q102_91, q102_94, q102_96, c1, ix2, r1, r2, k1, h, decide_true, zCall_some, Option.toList, List.cons_append, List.nil_append, zb_0, zb_1, zem, z01, z11, nI_add, ↓reduceIte, not_true_eq_false, not_false_eq_true, n0T, n1F, n11T, true_or, or_true, false_or]
    · have k1 : nI (hvOf σ (σ 3) false i) ≤ nI (hvOf (zup σ 1 (σ 1 + 1)) (σ 3) false i) := nI_le (by omega) (by omega)
      simp only [q102_0, q102_1, q102_4, q102_7, q102_10, q102_11, q102_12, q102_13, q102_16, q102_17, q102_18, q102_19, q102_20, q102_22, q102_25, q102_26, q102_29, q102_30, q102_31, q102_32, q102_35, q102_36, q102_39, q102_42, q102_43, q102_44, q102_45, q102_46, q102_49, q102_50, q102_51, q102_53, q102_54, q102_58, q102_60, q102_63, q102_64, q102_66, q102_69, q102_70, q102_73, q102_75, q102_76, q102_79, q102_81, q102_82, q102_84, q102_85, q102_86, q102_88, q102_91, q102_94, q102_96, c1, ix2, r1, r2, k1, h, decide_false, Bool.false_eq_true, or_z, zCall_some, Option.toList, List.cons_append, List.nil_append, zb_0, zb_1, zem, z01, z11, nI_add, ↓reduceIte, not_true_eq_false, not_false_eq_true, n0T, n1F, n11T, true_or, or_true, false_or])
  have key2 : ∀ (m i : Nat) (B : Int32), σ 0 ≤ i → i + m = 8 → rn sc (cf sc (d + 6)) 102 56 [.ref 0, .int (nI (σ 1)), .ref 54, .ref 54, .int B, .int (nI i)] [] f2 a2 j = some (some (.int B), f2, a2, j) := by
    intro m
    induction m with
    | zero =>
      intro i B h1 h2
      have e : i = 8 := by omega
      subst e
      have c1 : nI 8 ≤ nI 8 := nI_le (Nat.le_refl _) (by omega)
      simp only [q102_56, q102_58, q102_60, q102_94, q102_96, c1, zCall_some, Option.toList, List.cons_append, List.nil_append, zb_0, zb_1, zem, z01, z11, nI_add, ↓reduceIte, not_true_eq_false, not_false_eq_true, n0T, n1F, n11T, true_or, or_true, false_or]
    | succ m ih =>
      intro i B h1 h2
      have c1 : ¬ nI 8 ≤ nI i := nI_ge (by omega) (by omega)
      have h8 : i < 8 := by omega
      have ix2 : zIx 21 64 (nI i) := ix64 h8
      have r1 : a2 59 (nI i) = nI 0 := u2.2.2.2.2.2.2.2.2.2.2.2 i (by rw [z0]; exact h1) h8
      have r2 : a2 64 (nI i) = nI 0 := by
        rw [u4, k1 i h8]
        exact t2.2.2.2.2.2.2.2.2.2.2.2 i h1 h8
      have c2 : nI 0 ≤ nI 0 := nI_le (Nat.le_refl _) (by omega)
      rw [← ih (i + 1) B (by omega) (by omega), q102_56]
      simp only [q102_0, q102_1, q102_4, q102_7, q102_10, q102_11, q102_12, q102_13, q102_16, q102_17, q102_18, q102_19, q102_20, q102_22, q102_25, q102_26, q102_29, q102_30, q102_31, q102_32, q102_35, q102_36, q102_39, q102_42, q102_43, q102_44, q102_45, q102_46, q102_49, q102_50, q102_51, q102_53, q102_54, q102_58, q102_60, q102_63, q102_64, q102_66, q102_69, q102_70, q102_73, q102_75, q102_76, q102_79, q102_81, q102_82, q102_84, q102_85, q102_86, q102_88, q102_91, q102_94, q102_96, c1, c2, ix2, m_hoursOf h8, r1, r2, zCall_some, Option.toList, List.cons_append, List.nil_append, zb_0, zb_1, zem, z01, z11, nI_add, ↓reduceIte, not_true_eq_false, not_false_eq_true, n0T, n1F, n11T, true_or, or_true, false_or]
  refine ⟨f2, a2, ?_, ?_⟩
  · have c1 : nI 8 ≤ nI 8 := nI_le (Nat.le_refl _) (by omega)
    rw [en102]
    simp only [q102_0, q102_1, q102_4, q102_7, q102_10, q102_11, q102_12, q102_13, q102_16, q102_17, q102_18, isW_1, isC_2, Nat.reduceAdd, e7, t1, zCall_some, Option.toList, List.cons_append, List.nil_append, zb_0, zb_1, zem, z01, z11, nI_add, ↓reduceIte, not_true_eq_false, not_false_eq_true, n0T, n1F, n11T, true_or, or_true, false_or]
    refine Eq.trans (show _ = _ from ek) ?_
    simp only [q102_19, q102_20, q102_22, q102_42, q102_43, q102_44, q102_45, q102_46, q102_49, q102_50, q102_51, q102_53, q102_54, c1, u1, zCall_some, Option.toList, List.cons_append, List.nil_append, zb_0, zb_1, zem, z01, z11, nI_add, ↓reduceIte, not_true_eq_false, not_false_eq_true, n0T, n1F, n11T, true_or, or_true, false_or]
    refine Eq.trans (show _ = _ from key) ?_
    exact key2 (8 - σ 0) (σ 0) _ (Nat.le_refl _) (by omega)
  · exact ⟨fun k hk => (u3.1 k hk).trans (t3.1 k hk), fun k hk => (u3.2 k hk).trans (by rw [k2 k (by omega)]; exact t3.2 k hk)⟩
theorem x_told {sc : Int32 × (Int32 → Int32)} {f : zF} {a : zA} {j : zJ} {d : Nat} {σ : Nat → Nat} {what : Int32} (hW : WR 1 σ f a) (hV : VS σ) : ∃ (f' : zF) (a' : zA), cf sc (d + 8) 69 [.ref 0, .int what] f a j = some (some (.int (sTold σ what)), f', a', j) ∧ FrT f f' a a' := by
  have hVR := hV.1.1
  have hn := hVR.1
  have hR : CR0 2 σ f a := hW.1
  have hw : σ 3 ≤ 1010 := by have := hV.1.2.2.2.2; omega
  have hTr : true = true → TrOK σ (σ 3) := fun _ => hV.2.1
  obtain ⟨f1, a1, t1, t2, t3⟩ := m_turnsNow (sc := sc) (d := d + 1) (j := j) hW hV
  obtain ⟨f2, a2, b1, b2⟩ := m_bitsOfLess (sc := sc) (d := d) (j := j) hW hV
  have hW1 := hW.fr isW_1 t3
  have hR1 : CR0 2 σ f1 a1 := hW1.1
  have e6 : f 2 6 = nI (σ 0) := hR.1
  have e7 : f 2 7 = nI (σ 1) := hW.2.1.1
  have e8 : f 2 8 = nI (σ 3) := hW.2.1.2.1
  have e9 : f 2 9 = nI (σ 2) := hW.2.1.2.2
  have e7t : f 7 3 = nI (σ 4) := hR.2.2.2.2.1
  have isR7 : isR 7 := Or.inl rfl
  rw [en69]
  unfold sTold
  by_cases z0 : what = nI 0
  · subst z0
    refine ⟨f, a, ?_, FrT.rf⟩
    simp only [q69_0, q69_1, q69_4, q69_7, q69_8, q69_9, q69_72, q69_73, q69_76, q69_77, q69_78, q69_81, q69_82, q69_83, q69_86, q69_87, q69_88, q69_91, q69_92, q69_93, q69_96, q69_99, q69_100, q69_101, q69_104, q69_107, q69_108, q69_109, q69_112, q69_115, q69_116, q69_117, q69_120, q69_123, q69_124, q69_125, q69_128, q69_129, q69_132, q69_133, q69_134, q69_137, q69_140, q69_141, q69_142, q69_145, q69_148, q69_149, q69_150, q69_153, q69_154, q69_155, isW_1, isC_2, isR7, Nat.reduceAdd, ne0_1, ne0_2, ne0_3, ne0_4, ne0_5, ne0_6, ne0_7, ne0_8, ne0_9, ne0_10, ne0_11, ne0_12, ne1_0, ne1_2, ne1_3, ne1_4, ne1_5, ne1_6, ne1_7, ne1_8, ne1_9, ne1_10, ne1_11, ne1_12, ne2_0, ne2_1, ne2_3, ne2_4, ne2_5, ne2_6, ne2_7, ne2_8, ne2_9, ne2_10, ne2_11, ne2_12, ne3_0, ne3_1, ne3_2, ne3_4, ne3_5, ne3_6, ne3_7, ne3_8, ne3_9, ne3_10, ne3_11, ne3_12, ne4_0, ne4_1, ne4_2, ne4_3, ne4_5, ne4_6, ne4_7, ne4_8, ne4_9, ne4_10, ne4_11, ne4_12, ne5_0, ne5_1, ne5_2, ne5_3, ne5_4, ne5_6, ne5_7, ne5_8, ne5_9, ne5_10, ne5_11, ne5_12, ne6_0, ne6_1, ne6_2, ne6_3, ne6_4, ne6_5, ne6_7, ne6_8, ne6_9, ne6_10, ne6_11, ne6_12, ne7_0, ne7_1, ne7_2, ne7_3, ne7_4, ne7_5, ne7_6, ne7_8, ne7_9, ne7_10, ne7_11, ne7_12, ne8_0, ne8_1, ne8_2, ne8_3, ne8_4, ne8_5, ne8_6, ne8_7, ne8_9, ne8_10, ne8_11, ne8_12, ne9_0, ne9_1, ne9_2, ne9_3, ne9_4, ne9_5, ne9_6, ne9_7, ne9_8, ne9_10, ne9_11, ne9_12, ne10_0, ne10_1, ne10_2, ne10_3, ne10_4, ne10_5, ne10_6, ne10_7, ne10_8, ne10_9, ne10_11, ne10_12, ne11_0, ne11_1, ne11_2, ne11_3, ne11_4, ne11_5, ne11_6, ne11_7, ne11_8, ne11_9, ne11_10, ne11_12, ne12_0, ne12_1, ne12_2, ne12_3, ne12_4, ne12_5, ne12_6, ne12_7, ne12_8, ne12_9, ne12_10, ne12_11, zCall_some, Option.toList, List.cons_append, List.nil_append, zb_0, zb_1, zem, z01, z11, nI_add, ↓reduceIte, not_true_eq_false, not_false_eq_true, n0T, n1F, n11T, true_or, or_true, false_or, e6]
  · skip
    by_cases z1 : what = nI 1
    · subst z1
      refine ⟨f, a, ?_, FrT.rf⟩
      simp only [q69_0, q69_1, q69_4, q69_7, q69_8, q69_9, q69_72, q69_73, q69_76, q69_77, q69_78, q69_81, q69_82, q69_83, q69_86, q69_87, q69_88, q69_91, q69_92, q69_93, q69_96, q69_99, q69_100, q69_101, q69_104, q69_107, q69_108, q69_109, q69_112, q69_115, q69_116, q69_117, q69_120, q69_123, q69_124, q69_125, q69_128, q69_129, q69_132, q69_133, q69_134, q69_137, q69_140, q69_141, q69_142, q69_145, q69_148, q69_149, q69_150, q69_153, q69_154, q69_155, isW_1, isC_2, isR7, Nat.reduceAdd, ne0_1, ne0_2, ne0_3, ne0_4, ne0_5, ne0_6, ne0_7, ne0_8, ne0_9, ne0_10, ne0_11, ne0_12, ne1_0, ne1_2, ne1_3, ne1_4, ne1_5, ne1_6, ne1_7, ne1_8, ne1_9, ne1_10, ne1_11, ne1_12, ne2_0, ne2_1, ne2_3, ne2_4, ne2_5, ne2_6, ne2_7, ne2_8, ne2_9, ne2_10, ne2_11, ne2_12, ne3_0, ne3_1, ne3_2, ne3_4, ne3_5, ne3_6, ne3_7, ne3_8, ne3_9, ne3_10, ne3_11, ne3_12, ne4_0, ne4_1, ne4_2, ne4_3, ne4_5, ne4_6, ne4_7, ne4_8, ne4_9, ne4_10, ne4_11, ne4_12, ne5_0, ne5_1, ne5_2, ne5_3, ne5_4, ne5_6, ne5_7, ne5_8, ne5_9, ne5_10, ne5_11, ne5_12, ne6_0, ne6_1, ne6_2, ne6_3, ne6_4, ne6_5, ne6_7, ne6_8, ne6_9, ne6_10, ne6_11, ne6_12, ne7_0, ne7_1, ne7_2, ne7_3, ne7_4, ne7_5, ne7_6, ne7_8, ne7_9, ne7_10, ne7_11, ne7_12, ne8_0, ne8_1, ne8_2, ne8_3, ne8_4, ne8_5, ne8_6, ne8_7, ne8_9, ne8_10, ne8_11, ne8_12, ne9_0, ne9_1, ne9_2, ne9_3, ne9_4, ne9_5, ne9_6, ne9_7, ne9_8, ne9_10, ne9_11, ne9_12, ne10_0, ne10_1, ne10_2, ne10_3, ne10_4, ne10_5, ne10_6, ne10_7, ne10_8, ne10_9, ne10_11, ne10_12, ne11_0, ne11_1, ne11_2, ne11_3, ne11_4, ne11_5, ne11_6, ne11_7, ne11_8, ne11_9, ne11_10, ne11_12, ne12_0, ne12_1, ne12_2, ne12_3, ne12_4, ne12_5, ne12_6, ne12_7, ne12_8, ne12_9, ne12_10, ne12_11, zCall_some, Option.toList, List.cons_append, List.nil_append, zb_0, zb_1, zem, z01, z11, nI_add, ↓reduceIte, not_true_eq_false, not_false_eq_true, n0T, n1F, n11T, true_or, or_true, false_or, e7]
    · skip
      by_cases z2 : what = nI 2
      · subst z2
        refine ⟨f, a, ?_, FrT.rf⟩
        simp only [q69_0, q69_1, q69_4, q69_7, q69_8, q69_9, q69_72, q69_73, q69_76, q69_77, q69_78, q69_81, q69_82, q69_83, q69_86, q69_87, q69_88, q69_91, q69_92, q69_93, q69_96, q69_99, q69_100, q69_101, q69_104, q69_107, q69_108, q69_109, q69_112, q69_115, q69_116, q69_117, q69_120, q69_123, q69_124, q69_125, q69_128, q69_129, q69_132, q69_133, q69_134, q69_137, q69_140, q69_141, q69_142, q69_145, q69_148, q69_149, q69_150, q69_153, q69_154, q69_155, isW_1, isC_2, isR7, Nat.reduceAdd, ne0_1, ne0_2, ne0_3, ne0_4, ne0_5, ne0_6, ne0_7, ne0_8, ne0_9, ne0_10, ne0_11, ne0_12, ne1_0, ne1_2, ne1_3, ne1_4, ne1_5, ne1_6, ne1_7, ne1_8, ne1_9, ne1_10, ne1_11, ne1_12, ne2_0, ne2_1, ne2_3, ne2_4, ne2_5, ne2_6, ne2_7, ne2_8, ne2_9, ne2_10, ne2_11, ne2_12, ne3_0, ne3_1, ne3_2, ne3_4, ne3_5, ne3_6, ne3_7, ne3_8, ne3_9, ne3_10, ne3_11, ne3_12, ne4_0, ne4_1, ne4_2, ne4_3, ne4_5, ne4_6, ne4_7, ne4_8, ne4_9, ne4_10, ne4_11, ne4_12, ne5_0, ne5_1, ne5_2, ne5_3, ne5_4, ne5_6, ne5_7, ne5_8, ne5_9, ne5_10, ne5_11, ne5_12, ne6_0, ne6_1, ne6_2, ne6_3, ne6_4, ne6_5, ne6_7, ne6_8, ne6_9, ne6_10, ne6_11, ne6_12, ne7_0, ne7_1, ne7_2, ne7_3, ne7_4, ne7_5, ne7_6, ne7_8, ne7_9, ne7_10, ne7_11, ne7_12, ne8_0, ne8_1, ne8_2, ne8_3, ne8_4, ne8_5, ne8_6, ne8_7, ne8_9, ne8_10, ne8_11, ne8_12, ne9_0, ne9_1, ne9_2, ne9_3, ne9_4, ne9_5, ne9_6, ne9_7, ne9_8, ne9_10, ne9_11, ne9_12, ne10_0, ne10_1, ne10_2, ne10_3, ne10_4, ne10_5, ne10_6, ne10_7, ne10_8, ne10_9, ne10_11, ne10_12, ne11_0, ne11_1, ne11_2, ne11_3, ne11_4, ne11_5, ne11_6, ne11_7, ne11_8, ne11_9, ne11_10, ne11_12, ne12_0, ne12_1, ne12_2, ne12_3, ne12_4, ne12_5, ne12_6, ne12_7, ne12_8, ne12_9, ne12_10, ne12_11, zCall_some, Option.toList, List.cons_append, List.nil_append, zb_0, zb_1, zem, z01, z11, nI_add, ↓reduceIte, not_true_eq_false, not_false_eq_true, n0T, n1F, n11T, true_or, or_true, false_or, e9]
      · skip
        by_cases z3 : what = nI 3
        · subst z3
          refine ⟨f, a, ?_, FrT.rf⟩
          simp only [q69_0, q69_1, q69_4, q69_7, q69_8, q69_9, q69_72, q69_73, q69_76, q69_77, q69_78, q69_81, q69_82, q69_83, q69_86, q69_87, q69_88, q69_91, q69_92, q69_93, q69_96, q69_99, q69_100, q69_101, q69_104, q69_107, q69_108, q69_109, q69_112, q69_115, q69_116, q69_117, q69_120, q69_123, q69_124, q69_125, q69_128, q69_129, q69_132, q69_133, q69_134, q69_137, q69_140, q69_141, q69_142, q69_145, q69_148, q69_149, q69_150, q69_153, q69_154, q69_155, isW_1, isC_2, isR7, Nat.reduceAdd, ne0_1, ne0_2, ne0_3, ne0_4, ne0_5, ne0_6, ne0_7, ne0_8, ne0_9, ne0_10, ne0_11, ne0_12, ne1_0, ne1_2, ne1_3, ne1_4, ne1_5, ne1_6, ne1_7, ne1_8, ne1_9, ne1_10, ne1_11, ne1_12, ne2_0, ne2_1, ne2_3, ne2_4, ne2_5, ne2_6, ne2_7, ne2_8, ne2_9, ne2_10, ne2_11, ne2_12, ne3_0, ne3_1, ne3_2, ne3_4, ne3_5, ne3_6, ne3_7, ne3_8, ne3_9, ne3_10, ne3_11, ne3_12, ne4_0, ne4_1, ne4_2, ne4_3, ne4_5, ne4_6, ne4_7, ne4_8, ne4_9, ne4_10, ne4_11, ne4_12, ne5_0, ne5_1, ne5_2, ne5_3, ne5_4, ne5_6, ne5_7, ne5_8, ne5_9, ne5_10, ne5_11, ne5_12, ne6_0, ne6_1, ne6_2, ne6_3, ne6_4, ne6_5, ne6_7, ne6_8, ne6_9, ne6_10, ne6_11, ne6_12, ne7_0, ne7_1, ne7_2, ne7_3, ne7_4, ne7_5, ne7_6, ne7_8, ne7_9, ne7_10, ne7_11, ne7_12, ne8_0, ne8_1, ne8_2, ne8_3, ne8_4, ne8_5, ne8_6, ne8_7, ne8_9, ne8_10, ne8_11, ne8_12, ne9_0, ne9_1, ne9_2, ne9_3, ne9_4, ne9_5, ne9_6, ne9_7, ne9_8, ne9_10, ne9_11, ne9_12, ne10_0, ne10_1, ne10_2, ne10_3, ne10_4, ne10_5, ne10_6, ne10_7, ne10_8, ne10_9, ne10_11, ne10_12, ne11_0, ne11_1, ne11_2, ne11_3, ne11_4, ne11_5, ne11_6, ne11_7, ne11_8, ne11_9, ne11_10, ne11_12, ne12_0, ne12_1, ne12_2, ne12_3, ne12_4, ne12_5, ne12_6, ne12_7, ne12_8, ne12_9, ne12_10, ne12_11, zCall_some, Option.toList, List.cons_append, List.nil_append, zb_0, zb_1, zem, z01, z11, nI_add, ↓reduceIte, not_true_eq_false, not_false_eq_true, n0T, n1F, n11T, true_or, or_true, false_or, e8]
        · skip
          by_cases z4 : what = nI 4
          · subst z4
            refine ⟨f1, a1, ?_, t3⟩
            simp only [q69_0, q69_1, q69_4, q69_7, q69_8, q69_9, q69_72, q69_73, q69_76, q69_77, q69_78, q69_81, q69_82, q69_83, q69_86, q69_87, q69_88, q69_91, q69_92, q69_93, q69_96, q69_99, q69_100, q69_101, q69_104, q69_107, q69_108, q69_109, q69_112, q69_115, q69_116, q69_117, q69_120, q69_123, q69_124, q69_125, q69_128, q69_129, q69_132, q69_133, q69_134, q69_137, q69_140, q69_141, q69_142, q69_145, q69_148, q69_149, q69_150, q69_153, q69_154, q69_155, isW_1, isC_2, isR7, Nat.reduceAdd, ne0_1, ne0_2, ne0_3, ne0_4, ne0_5, ne0_6, ne0_7, ne0_8, ne0_9, ne0_10, ne0_11, ne0_12, ne1_0, ne1_2, ne1_3, ne1_4, ne1_5, ne1_6, ne1_7, ne1_8, ne1_9, ne1_10, ne1_11, ne1_12, ne2_0, ne2_1, ne2_3, ne2_4, ne2_5, ne2_6, ne2_7, ne2_8, ne2_9, ne2_10, ne2_11, ne2_12, ne3_0, ne3_1, ne3_2, ne3_4, ne3_5, ne3_6, ne3_7, ne3_8, ne3_9, ne3_10, ne3_11, ne3_12, ne4_0, ne4_1, ne4_2, ne4_3, ne4_5, ne4_6, ne4_7, ne4_8, ne4_9, ne4_10, ne4_11, ne4_12, ne5_0, ne5_1, ne5_2, ne5_3, ne5_4, ne5_6, ne5_7, ne5_8, ne5_9, ne5_10, ne5_11, ne5_12, ne6_0, ne6_1, ne6_2, ne6_3, ne6_4, ne6_5, ne6_7, ne6_8, ne6_9, ne6_10, ne6_11, ne6_12, ne7_0, ne7_1, ne7_2, ne7_3, ne7_4, ne7_5, ne7_6, ne7_8, ne7_9, ne7_10, ne7_11, ne7_12, ne8_0, ne8_1, ne8_2, ne8_3, ne8_4, ne8_5, ne8_6, ne8_7, ne8_9, ne8_10, ne8_11, ne8_12, ne9_0, ne9_1, ne9_2, ne9_3, ne9_4, ne9_5, ne9_6, ne9_7, ne9_8, ne9_10, ne9_11, ne9_12, ne10_0, ne10_1, ne10_2, ne10_3, ne10_4, ne10_5, ne10_6, ne10_7, ne10_8, ne10_9, ne10_11, ne10_12, ne11_0, ne11_1, ne11_2, ne11_3, ne11_4, ne11_5, ne11_6, ne11_7, ne11_8, ne11_9, ne11_10, ne11_12, ne12_0, ne12_1, ne12_2, ne12_3, ne12_4, ne12_5, ne12_6, ne12_7, ne12_8, ne12_9, ne12_10, ne12_11, zCall_some, Option.toList, List.cons_append, List.nil_append, zb_0, zb_1, zem, z01, z11, nI_add, ↓reduceIte, not_true_eq_false, not_false_eq_true, n0T, n1F, n11T, true_or, or_true, false_or, t1, t2.2.2.1]
          · skip
            by_cases z5 : what = nI 5
            · subst z5
              refine ⟨f1, a1, ?_, t3⟩
              simp only [q69_0, q69_1, q69_4, q69_7, q69_8, q69_9, q69_72, q69_73, q69_76, q69_77, q69_78, q69_81, q69_82, q69_83, q69_86, q69_87, q69_88, q69_91, q69_92, q69_93, q69_96, q69_99, q69_100, q69_101, q69_104, q69_107, q69_108, q69_109, q69_112, q69_115, q69_116, q69_117, q69_120, q69_123, q69_124, q69_125, q69_128, q69_129, q69_132, q69_133, q69_134, q69_137, q69_140, q69_141, q69_142, q69_145, q69_148, q69_149, q69_150, q69_153, q69_154, q69_155, isW_1, isC_2, isR7, Nat.reduceAdd, ne0_1, ne0_2, ne0_3, ne0_4, ne0_5, ne0_6, ne0_7, ne0_8, ne0_9, ne0_10, ne0_11, ne0_12, ne1_0, ne1_2, ne1_3, ne1_4, ne1_5, ne1_6, ne1_7, ne1_8, ne1_9, ne1_10, ne1_11, ne1_12, ne2_0, ne2_1, ne2_3, ne2_4, ne2_5, ne2_6, ne2_7, ne2_8, ne2_9, ne2_10, ne2_11, ne2_12, ne3_0, ne3_1, ne3_2, ne3_4, ne3_5, ne3_6, ne3_7, ne3_8, ne3_9, ne3_10, ne3_11, ne3_12, ne4_0, ne4_1, ne4_2, ne4_3, ne4_5, ne4_6, ne4_7, ne4_8, ne4_9, ne4_10, ne4_11, ne4_12, ne5_0, ne5_1, ne5_2, ne5_3, ne5_4, ne5_6, ne5_7, ne5_8, ne5_9, ne5_10, ne5_11, ne5_12, ne6_0, ne6_1, ne6_2, ne6_3, ne6_4, ne6_5, ne6_7, ne6_8, ne6_9, ne6_10, ne6_11, ne6_12, ne7_0, ne7_1, ne7_2, ne7_3, ne7_4, ne7_5, ne7_6, ne7_8, ne7_9, ne7_10, ne7_11, ne7_12, ne8_0, ne8_1, ne8_2, ne8_3, ne8_4, ne8_5, ne8_6, ne8_7, ne8_9, ne8_10, ne8_11, ne8_12, ne9_0, ne9_1, ne9_2, ne9_3, ne9_4, ne9_5, ne9_6, ne9_7, ne9_8, ne9_10, ne9_11, ne9_12, ne10_0, ne10_1, ne10_2, ne10_3, ne10_4, ne10_5, ne10_6, ne10_7, ne10_8, ne10_9, ne10_11, ne10_12, ne11_0, ne11_1, ne11_2, ne11_3, ne11_4, ne11_5, ne11_6, ne11_7, ne11_8, ne11_9, ne11_10, ne11_12, ne12_0, ne12_1, ne12_2, ne12_3, ne12_4, ne12_5, ne12_6, ne12_7, ne12_8, ne12_9, ne12_10, ne12_11, zCall_some, Option.toList, List.cons_append, List.nil_append, zb_0, zb_1, zem, z01, z11, nI_add, ↓reduceIte, not_true_eq_false, not_false_eq_true, n0T, n1F, n11T, true_or, or_true, false_or, t1, t2.2.2.2.1]
            · skip
              by_cases z6 : what = nI 6
              · subst z6
                refine ⟨f1, a1, ?_, t3⟩
                simp only [q69_0, q69_1, q69_4, q69_7, q69_8, q69_9, q69_72, q69_73, q69_76, q69_77, q69_78, q69_81, q69_82, q69_83, q69_86, q69_87, q69_88, q69_91, q69_92, q69_93, q69_96, q69_99, q69_100, q69_101, q69_104, q69_107, q69_108, q69_109, q69_112, q69_115, q69_116, q69_117, q69_120, q69_123, q69_124, q69_125, q69_128, q69_129, q69_132, q69_133, q69_134, q69_137, q69_140, q69_141, q69_142, q69_145, q69_148, q69_149, q69_150, q69_153, q69_154, q69_155, isW_1, isC_2, isR7, Nat.reduceAdd, ne0_1, ne0_2, ne0_3, ne0_4, ne0_5, ne0_6, ne0_7, ne0_8, ne0_9, ne0_10, ne0_11, ne0_12, ne1_0, ne1_2, ne1_3, ne1_4, ne1_5, ne1_6, ne1_7, ne1_8, ne1_9, ne1_10, ne1_11, ne1_12, ne2_0, ne2_1, ne2_3, ne2_4, ne2_5, ne2_6, ne2_7, ne2_8, ne2_9, ne2_10, ne2_11, ne2_12, ne3_0, ne3_1, ne3_2, ne3_4, ne3_5, ne3_6, ne3_7, ne3_8, ne3_9, ne3_10, ne3_11, ne3_12, ne4_0, ne4_1, ne4_2, ne4_3, ne4_5, ne4_6, ne4_7, ne4_8, ne4_9, ne4_10, ne4_11, ne4_12, ne5_0, ne5_1, ne5_2, ne5_3, ne5_4, ne5_6, ne5_7, ne5_8, ne5_9, ne5_10, ne5_11, ne5_12, ne6_0, ne6_1, ne6_2, ne6_3, ne6_4, ne6_5, ne6_7, ne6_8, ne6_9, ne6_10, ne6_11, ne6_12, ne7_0, ne7_1, ne7_2, ne7_3, ne7_4, ne7_5, ne7_6, ne7_8, ne7_9, ne7_10, ne7_11, ne7_12, ne8_0, ne8_1, ne8_2, ne8_3, ne8_4, ne8_5, ne8_6, ne8_7, ne8_9, ne8_10, ne8_11, ne8_12, ne9_0, ne9_1, ne9_2, ne9_3, ne9_4, ne9_5, ne9_6, ne9_7, ne9_8, ne9_10, ne9_11, ne9_12, ne10_0, ne10_1, ne10_2, ne10_3, ne10_4, ne10_5, ne10_6, ne10_7, ne10_8, ne10_9, ne10_11, ne10_12, ne11_0, ne11_1, ne11_2, ne11_3, ne11_4, ne11_5, ne11_6, ne11_7, ne11_8, ne11_9, ne11_10, ne11_12, ne12_0, ne12_1, ne12_2, ne12_3, ne12_4, ne12_5, ne12_6, ne12_7, ne12_8, ne12_9, ne12_10, ne12_11, zCall_some, Option.toList, List.cons_append, List.nil_append, zb_0, zb_1, zem, z01, z11, nI_add, ↓reduceIte, not_true_eq_false, not_false_eq_true, n0T, n1F, n11T, true_or, or_true, false_or, t1, m_allHours hVR t2]
              · skip
                by_cases z7 : what = nI 7
                · subst z7
                  refine ⟨f1, a1, ?_, t3⟩
                  simp only [q69_0, q69_1, q69_4, q69_7, q69_8, q69_9, q69_72, q69_73, q69_76, q69_77, q69_78, q69_81, q69_82, q69_83, q69_86, q69_87, q69_88, q69_91, q69_92, q69_93, q69_96, q69_99, q69_100, q69_101, q69_104, q69_107, q69_108, q69_109, q69_112, q69_115, q69_116, q69_117, q69_120, q69_123, q69_124, q69_125, q69_128, q69_129, q69_132, q69_133, q69_134, q69_137, q69_140, q69_141, q69_142, q69_145, q69_148, q69_149, q69_150, q69_153, q69_154, q69_155, isW_1, isC_2, isR7, Nat.reduceAdd, ne0_1, ne0_2, ne0_3, ne0_4, ne0_5, ne0_6, ne0_7, ne0_8, ne0_9, ne0_10, ne0_11, ne0_12, ne1_0, ne1_2, ne1_3, ne1_4, ne1_5, ne1_6, ne1_7, ne1_8, ne1_9, ne1_10, ne1_11, ne1_12, ne2_0, ne2_1, ne2_3, ne2_4, ne2_5, ne2_6, ne2_7, ne2_8, ne2_9, ne2_10, ne2_11, ne2_12, ne3_0, ne3_1, ne3_2, ne3_4, ne3_5, ne3_6, ne3_7, ne3_8, ne3_9, ne3_10, ne3_11, ne3_12, ne4_0, ne4_1, ne4_2, ne4_3, ne4_5, ne4_6, ne4_7, ne4_8, ne4_9, ne4_10, ne4_11, ne4_12, ne5_0, ne5_1, ne5_2, ne5_3, ne5_4, ne5_6, ne5_7, ne5_8, ne5_9, ne5_10, ne5_11, ne5_12, ne6_0, ne6_1, ne6_2, ne6_3, ne6_4, ne6_5, ne6_7, ne6_8, ne6_9, ne6_10, ne6_11, ne6_12, ne7_0, ne7_1, ne7_2, ne7_3, ne7_4, ne7_5, ne7_6, ne7_8, ne7_9, ne7_10, ne7_11, ne7_12, ne8_0, ne8_1, ne8_2, ne8_3, ne8_4, ne8_5, ne8_6, ne8_7, ne8_9, ne8_10, ne8_11, ne8_12, ne9_0, ne9_1, ne9_2, ne9_3, ne9_4, ne9_5, ne9_6, ne9_7, ne9_8, ne9_10, ne9_11, ne9_12, ne10_0, ne10_1, ne10_2, ne10_3, ne10_4, ne10_5, ne10_6, ne10_7, ne10_8, ne10_9, ne10_11, ne10_12, ne11_0, ne11_1, ne11_2, ne11_3, ne11_4, ne11_5, ne11_6, ne11_7, ne11_8, ne11_9, ne11_10, ne11_12, ne12_0, ne12_1, ne12_2, ne12_3, ne12_4, ne12_5, ne12_6, ne12_7, ne12_8, ne12_9, ne12_10, ne12_11, zCall_some, Option.toList, List.cons_append, List.nil_append, zb_0, zb_1, zem, z01, z11, nI_add, ↓reduceIte, not_true_eq_false, not_false_eq_true, n0T, n1F, n11T, true_or, or_true, false_or, t1, t2.2.1]
                · skip
                  by_cases z8 : what = nI 8
                  · subst z8
                    refine ⟨f1, a1, ?_, t3⟩
                    simp only [q69_0, q69_1, q69_4, q69_7, q69_8, q69_9, q69_72, q69_73, q69_76, q69_77, q69_78, q69_81, q69_82, q69_83, q69_86, q69_87, q69_88, q69_91, q69_92, q69_93, q69_96, q69_99, q69_100, q69_101, q69_104, q69_107, q69_108, q69_109, q69_112, q69_115, q69_116, q69_117, q69_120, q69_123, q69_124, q69_125, q69_128, q69_129, q69_132, q69_133, q69_134, q69_137, q69_140, q69_141, q69_142, q69_145, q69_148, q69_149, q69_150, q69_153, q69_154, q69_155, isW_1, isC_2, isR7, Nat.reduceAdd, ne0_1, ne0_2, ne0_3, ne0_4, ne0_5, ne0_6, ne0_7, ne0_8, ne0_9, ne0_10, ne0_11, ne0_12, ne1_0, ne1_2, ne1_3, ne1_4, ne1_5, ne1_6, ne1_7, ne1_8, ne1_9, ne1_10, ne1_11, ne1_12, ne2_0, ne2_1, ne2_3, ne2_4, ne2_5, ne2_6, ne2_7, ne2_8, ne2_9, ne2_10, ne2_11, ne2_12, ne3_0, ne3_1, ne3_2, ne3_4, ne3_5, ne3_6, ne3_7, ne3_8, ne3_9, ne3_10, ne3_11, ne3_12, ne4_0, ne4_1, ne4_2, ne4_3, ne4_5, ne4_6, ne4_7, ne4_8, ne4_9, ne4_10, ne4_11, ne4_12, ne5_0, ne5_1, ne5_2, ne5_3, ne5_4, ne5_6, ne5_7, ne5_8, ne5_9, ne5_10, ne5_11, ne5_12, ne6_0, ne6_1, ne6_2, ne6_3, ne6_4, ne6_5, ne6_7, ne6_8, ne6_9, ne6_10, ne6_11, ne6_12, ne7_0, ne7_1, ne7_2, ne7_3, ne7_4, ne7_5, ne7_6, ne7_8, ne7_9, ne7_10, ne7_11, ne7_12, ne8_0, ne8_1, ne8_2, ne8_3, ne8_4, ne8_5, ne8_6, ne8_7, ne8_9, ne8_10, ne8_11, ne8_12, ne9_0, ne9_1, ne9_2, ne9_3, ne9_4, ne9_5, ne9_6, ne9_7, ne9_8, ne9_10, ne9_11, ne9_12, ne10_0, ne10_1, ne10_2, ne10_3, ne10_4, ne10_5, ne10_6, ne10_7, ne10_8, ne10_9, ne10_11, ne10_12, ne11_0, ne11_1, ne11_2, ne11_3, ne11_4, ne11_5, ne11_6, ne11_7, ne11_8, ne11_9, ne11_10, ne11_12, ne12_0, ne12_1, ne12_2, ne12_3, ne12_4, ne12_5, ne12_6, ne12_7, ne12_8, ne12_9, ne12_10, ne12_11, zCall_some, Option.toList, List.cons_append, List.nil_append, zb_0, zb_1, zem, z01, z11, nI_add, ↓reduceIte, not_true_eq_false, not_false_eq_true, n0T, n1F, n11T, true_or, or_true, false_or, t1, m_allWater isC_2 hVR hR1 t2]
                  · skip
                    by_cases z9 : what = nI 9
                    · subst z9
                      refine ⟨f, a, ?_, FrT.rf⟩
                      simp only [q69_0, q69_1, q69_4, q69_7, q69_8, q69_9, q69_72, q69_73, q69_76, q69_77, q69_78, q69_81, q69_82, q69_83, q69_86, q69_87, q69_88, q69_91, q69_92, q69_93, q69_96, q69_99, q69_100, q69_101, q69_104, q69_107, q69_108, q69_109, q69_112, q69_115, q69_116, q69_117, q69_120, q69_123, q69_124, q69_125, q69_128, q69_129, q69_132, q69_133, q69_134, q69_137, q69_140, q69_141, q69_142, q69_145, q69_148, q69_149, q69_150, q69_153, q69_154, q69_155, isW_1, isC_2, isR7, Nat.reduceAdd, ne0_1, ne0_2, ne0_3, ne0_4, ne0_5, ne0_6, ne0_7, ne0_8, ne0_9, ne0_10, ne0_11, ne0_12, ne1_0, ne1_2, ne1_3, ne1_4, ne1_5, ne1_6, ne1_7, ne1_8, ne1_9, ne1_10, ne1_11, ne1_12, ne2_0, ne2_1, ne2_3, ne2_4, ne2_5, ne2_6, ne2_7, ne2_8, ne2_9, ne2_10, ne2_11, ne2_12, ne3_0, ne3_1, ne3_2, ne3_4, ne3_5, ne3_6, ne3_7, ne3_8, ne3_9, ne3_10, ne3_11, ne3_12, ne4_0, ne4_1, ne4_2, ne4_3, ne4_5, ne4_6, ne4_7, ne4_8, ne4_9, ne4_10, ne4_11, ne4_12, ne5_0, ne5_1, ne5_2, ne5_3, ne5_4, ne5_6, ne5_7, ne5_8, ne5_9, ne5_10, ne5_11, ne5_12, ne6_0, ne6_1, ne6_2, ne6_3, ne6_4, ne6_5, ne6_7, ne6_8, ne6_9, ne6_10, ne6_11, ne6_12, ne7_0, ne7_1, ne7_2, ne7_3, ne7_4, ne7_5, ne7_6, ne7_8, ne7_9, ne7_10, ne7_11, ne7_12, ne8_0, ne8_1, ne8_2, ne8_3, ne8_4, ne8_5, ne8_6, ne8_7, ne8_9, ne8_10, ne8_11, ne8_12, ne9_0, ne9_1, ne9_2, ne9_3, ne9_4, ne9_5, ne9_6, ne9_7, ne9_8, ne9_10, ne9_11, ne9_12, ne10_0, ne10_1, ne10_2, ne10_3, ne10_4, ne10_5, ne10_6, ne10_7, ne10_8, ne10_9, ne10_11, ne10_12, ne11_0, ne11_1, ne11_2, ne11_3, ne11_4, ne11_5, ne11_6, ne11_7, ne11_8, ne11_9, ne11_10, ne11_12, ne12_0, ne12_1, ne12_2, ne12_3, ne12_4, ne12_5, ne12_6, ne12_7, ne12_8, ne12_9, ne12_10, ne12_11, zCall_some, Option.toList, List.cons_append, List.nil_append, zb_0, zb_1, zem, z01, z11, nI_add, ↓reduceIte, not_true_eq_false, not_false_eq_true, n0T, n1F, n11T, true_or, or_true, false_or, e7t]
                    · skip
                      by_cases z10 : what = nI 10
                      · subst z10
                        refine ⟨f1, a1, ?_, t3⟩
                        simp only [q69_0, q69_1, q69_4, q69_7, q69_8, q69_9, q69_72, q69_73, q69_76, q69_77, q69_78, q69_81, q69_82, q69_83, q69_86, q69_87, q69_88, q69_91, q69_92, q69_93, q69_96, q69_99, q69_100, q69_101, q69_104, q69_107, q69_108, q69_109, q69_112, q69_115, q69_116, q69_117, q69_120, q69_123, q69_124, q69_125, q69_128, q69_129, q69_132, q69_133, q69_134, q69_137, q69_140, q69_141, q69_142, q69_145, q69_148, q69_149, q69_150, q69_153, q69_154, q69_155, isW_1, isC_2, isR7, Nat.reduceAdd, ne0_1, ne0_2, ne0_3, ne0_4, ne0_5, ne0_6, ne0_7, ne0_8, ne0_9, ne0_10, ne0_11, ne0_12, ne1_0, ne1_2, ne1_3, ne1_4, ne1_5, ne1_6, ne1_7, ne1_8, ne1_9, ne1_10, ne1_11, ne1_12, ne2_0, ne2_1, ne2_3, ne2_4, ne2_5, ne2_6, ne2_7, ne2_8, ne2_9, ne2_10, ne2_11, ne2_12, ne3_0, ne3_1, ne3_2, ne3_4, ne3_5, ne3_6, ne3_7, ne3_8, ne3_9, ne3_10, ne3_11, ne3_12, ne4_0, ne4_1, ne4_2, ne4_3, ne4_5, ne4_6, ne4_7, ne4_8, ne4_9, ne4_10, ne4_11, ne4_12, ne5_0, ne5_1, ne5_2, ne5_3, ne5_4, ne5_6, ne5_7, ne5_8, ne5_9, ne5_10, ne5_11, ne5_12, ne6_0, ne6_1, ne6_2, ne6_3, ne6_4, ne6_5, ne6_7, ne6_8, ne6_9, ne6_10, ne6_11, ne6_12, ne7_0, ne7_1, ne7_2, ne7_3, ne7_4, ne7_5, ne7_6, ne7_8, ne7_9, ne7_10, ne7_11, ne7_12, ne8_0, ne8_1, ne8_2, ne8_3, ne8_4, ne8_5, ne8_6, ne8_7, ne8_9, ne8_10, ne8_11, ne8_12, ne9_0, ne9_1, ne9_2, ne9_3, ne9_4, ne9_5, ne9_6, ne9_7, ne9_8, ne9_10, ne9_11, ne9_12, ne10_0, ne10_1, ne10_2, ne10_3, ne10_4, ne10_5, ne10_6, ne10_7, ne10_8, ne10_9, ne10_11, ne10_12, ne11_0, ne11_1, ne11_2, ne11_3, ne11_4, ne11_5, ne11_6, ne11_7, ne11_8, ne11_9, ne11_10, ne11_12, ne12_0, ne12_1, ne12_2, ne12_3, ne12_4, ne12_5, ne12_6, ne12_7, ne12_8, ne12_9, ne12_10, ne12_11, zCall_some, Option.toList, List.cons_append, List.nil_append, zb_0, zb_1, zem, z01, z11, nI_add, ↓reduceIte, not_true_eq_false, not_false_eq_true, n0T, n1F, n11T, true_or, or_true, false_or, t1, m_allNight hVR hw hTr t2]
                      · skip
                        by_cases z11 : what = nI 11
                        · subst z11
                          refine ⟨f2, a2, ?_, b2⟩
                          simp only [q69_0, q69_1, q69_4, q69_7, q69_8, q69_9, q69_72, q69_73, q69_76, q69_77, q69_78, q69_81, q69_82, q69_83, q69_86, q69_87, q69_88, q69_91, q69_92, q69_93, q69_96, q69_99, q69_100, q69_101, q69_104, q69_107, q69_108, q69_109, q69_112, q69_115, q69_116, q69_117, q69_120, q69_123, q69_124, q69_125, q69_128, q69_129, q69_132, q69_133, q69_134, q69_137, q69_140, q69_141, q69_142, q69_145, q69_148, q69_149, q69_150, q69_153, q69_154, q69_155, isW_1, isC_2, isR7, Nat.reduceAdd, ne0_1, ne0_2, ne0_3, ne0_4, ne0_5, ne0_6, ne0_7, ne0_8, ne0_9, ne0_10, ne0_11, ne0_12, ne1_0, ne1_2, ne1_3, ne1_4, ne1_5, ne1_6, ne1_7, ne1_8, ne1_9, ne1_10, ne1_11, ne1_12, ne2_0, ne2_1, ne2_3, ne2_4, ne2_5, ne2_6, ne2_7, ne2_8, ne2_9, ne2_10, ne2_11, ne2_12, ne3_0, ne3_1, ne3_2, ne3_4, ne3_5, ne3_6, ne3_7, ne3_8, ne3_9, ne3_10, ne3_11, ne3_12, ne4_0, ne4_1, ne4_2, ne4_3, ne4_5, ne4_6, ne4_7, ne4_8, ne4_9, ne4_10, ne4_11, ne4_12, ne5_0, ne5_1, ne5_2, ne5_3, ne5_4, ne5_6, ne5_7, ne5_8, ne5_9, ne5_10, ne5_11, ne5_12, ne6_0, ne6_1, ne6_2, ne6_3, ne6_4, ne6_5, ne6_7, ne6_8, ne6_9, ne6_10, ne6_11, ne6_12, ne7_0, ne7_1, ne7_2, ne7_3, ne7_4, ne7_5, ne7_6, ne7_8, ne7_9, ne7_10, ne7_11, ne7_12, ne8_0, ne8_1, ne8_2, ne8_3, ne8_4, ne8_5, ne8_6, ne8_7, ne8_9, ne8_10, ne8_11, ne8_12, ne9_0, ne9_1, ne9_2, ne9_3, ne9_4, ne9_5, ne9_6, ne9_7, ne9_8, ne9_10, ne9_11, ne9_12, ne10_0, ne10_1, ne10_2, ne10_3, ne10_4, ne10_5, ne10_6, ne10_7, ne10_8, ne10_9, ne10_11, ne10_12, ne11_0, ne11_1, ne11_2, ne11_3, ne11_4, ne11_5, ne11_6, ne11_7, ne11_8, ne11_9, ne11_10, ne11_12, ne12_0, ne12_1, ne12_2, ne12_3, ne12_4, ne12_5, ne12_6, ne12_7, ne12_8, ne12_9, ne12_10, ne12_11, zCall_some, Option.toList, List.cons_append, List.nil_append, zb_0, zb_1, zem, z01, z11, nI_add, ↓reduceIte, not_true_eq_false, not_false_eq_true, n0T, n1F, n11T, true_or, or_true, false_or, b1]
                        · skip
                          refine ⟨f, a, ?_, FrT.rf⟩
                          simp only [q69_0, q69_1, q69_4, q69_7, q69_8, q69_9, q69_72, q69_73, q69_76, q69_77, q69_78, q69_81, q69_82, q69_83, q69_86, q69_87, q69_88, q69_91, q69_92, q69_93, q69_96, q69_99, q69_100, q69_101, q69_104, q69_107, q69_108, q69_109, q69_112, q69_115, q69_116, q69_117, q69_120, q69_123, q69_124, q69_125, q69_128, q69_129, q69_132, q69_133, q69_134, q69_137, q69_140, q69_141, q69_142, q69_145, q69_148, q69_149, q69_150, q69_153, q69_154, q69_155, isW_1, isC_2, isR7, Nat.reduceAdd, ne0_1, ne0_2, ne0_3, ne0_4, ne0_5, ne0_6, ne0_7, ne0_8, ne0_9, ne0_10, ne0_11, ne0_12, ne1_0, ne1_2, ne1_3, ne1_4, ne1_5, ne1_6, ne1_7, ne1_8, ne1_9, ne1_10, ne1_11, ne1_12, ne2_0, ne2_1, ne2_3, ne2_4, ne2_5, ne2_6, ne2_7, ne2_8, ne2_9, ne2_10, ne2_11, ne2_12, ne3_0, ne3_1, ne3_2, ne3_4, ne3_5, ne3_6, ne3_7, ne3_8, ne3_9, ne3_10, ne3_11, ne3_12, ne4_0, ne4_1, ne4_2, ne4_3, ne4_5, ne4_6, ne4_7, ne4_8, ne4_9, ne4_10, ne4_11, ne4_12, ne5_0, ne5_1, ne5_2, ne5_3, ne5_4, ne5_6, ne5_7, ne5_8, ne5_9, ne5_10, ne5_11, ne5_12, ne6_0, ne6_1, ne6_2, ne6_3, ne6_4, ne6_5, ne6_7, ne6_8, ne6_9, ne6_10, ne6_11, ne6_12, ne7_0, ne7_1, ne7_2, ne7_3, ne7_4, ne7_5, ne7_6, ne7_8, ne7_9, ne7_10, ne7_11, ne7_12, ne8_0, ne8_1, ne8_2, ne8_3, ne8_4, ne8_5, ne8_6, ne8_7, ne8_9, ne8_10, ne8_11, ne8_12, ne9_0, ne9_1, ne9_2, ne9_3, ne9_4, ne9_5, ne9_6, ne9_7, ne9_8, ne9_10, ne9_11, ne9_12, ne10_0, ne10_1, ne10_2, ne10_3, ne10_4, ne10_5, ne10_6, ne10_7, ne10_8, ne10_9, ne10_11, ne10_12, ne11_0, ne11_1, ne11_2, ne11_3, ne11_4, ne11_5, ne11_6, ne11_7, ne11_8, ne11_9, ne11_10, ne11_12, ne12_0, ne12_1, ne12_2, ne12_3, ne12_4, ne12_5, ne12_6, ne12_7, ne12_8, ne12_9, ne12_10, ne12_11, zCall_some, Option.toList, List.cons_append, List.nil_append, zb_0, zb_1, zem, z01, z11, nI_add, ↓reduceIte, not_true_eq_false, not_false_eq_true, n0T, n1F, n11T, true_or, or_true, false_or, z0, z1, z2, z3, z4, z5, z6, z7, z8, z9, z10, z11]
