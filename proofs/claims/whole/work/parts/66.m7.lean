/-! ===== the reference: of, turn, lag, line, who, shared, told, trade, over, mean, odds ===== -/
theorem y_of {sc : Int32 × (Int32 → Int32)} {f : zF} {a : zA} {j : zJ} {d : Nat} {σ : Nat → Nat} {v what : Int32} (hR : MR σ a) (hV : VS σ) : ∃ (f' : zF) (a' : zA), cf sc (d + 7) 137 [.ref 85, .int v, .int what] f a j = some (some (.int (sOf σ v what)), f', a', j) ∧ MF f f' a a' := by
  have hVR := hV.1.1
  have hn := hVR.1
  have hw : σ 3 ≤ 1010 := by have := hV.1.2.2.2.2; omega
  have hTr : true = true → TrOK σ (σ 3) := fun _ => hV.2.1
  have hF := m_isField (sc := sc) (d := d + 4) (f := f) (j := j) (v := v) hR hn
  obtain ⟨f1, a1, t1, t2, t3⟩ := m_now (sc := sc) (d := d) (f := f) (j := j) hR hV
  have hR1 := t3.r hR
  rw [en137]
  unfold sOf
  by_cases hv : zHas v (σ 0)
  · refine ⟨f1, a1, ?_, t3⟩
    obtain ⟨g, hg, rfl⟩ := zHas_of (by omega) hv
    have ec : (nI g).toNatClampNeg = g := nI_clamp (by omega)
    rw [if_pos hv, ec]
    obtain ⟨⟨k1, k2, k3, k4, k5, k6, k7⟩, k8, k9⟩ := t2
    have i16 : zIx 21 86 (nI (16 + g)) := ix86 (by omega)
    have i24 : zIx 21 86 (nI (24 + g)) := ix86 (by omega)
    have i32 : zIx 21 86 (nI (32 + g)) := ix86 (by omega)
    have i92 : zIx 21 92 (nI g) := ix92 (by omega)
    have i93 : zIx 21 93 (nI g) := ix93 (by omega)
    have i94 : zIx 21 94 (nI g) := ix94 (by omega)
    have i95 : zIx 21 95 (nI g) := ix95 (by omega)
    have r16 := hR1 (16 + g) (by omega)
    have r24 := hR1 (24 + g) (by omega)
    have r32 := hR1 (32 + g) (by omega)
    have r92 := k7 g (by omega)
    have r93 := k8 g hg
    have r94 := (k9 g hg).1
    have r95 := (k9 g hg).2
    by_cases e0 : what = nI 0
    · subst e0
      simp only [q137_0, q137_1, q137_2, q137_5, q137_8, q137_9, q137_10, q137_11, q137_14, q137_15, q137_64, q137_65, q137_68, q137_70, q137_71, q137_72, q137_73, q137_74, q137_75, q137_78, q137_80, q137_81, q137_82, q137_83, q137_84, q137_85, q137_88, q137_90, q137_91, q137_92, q137_93, q137_94, q137_95, q137_98, q137_99, q137_100, q137_101, q137_102, q137_105, q137_106, q137_107, q137_108, q137_109, q137_112, q137_113, q137_114, q137_116, q137_119, q137_121, q137_124, q137_125, q137_128, q137_129, q137_130, q137_131, q137_134, q137_135, q137_136, q137_137, q137_138, q137_139, q137_142, q137_143, q137_144, q137_145, q137_146, q137_147, q137_150, q137_151, q137_152, q137_155, q137_156, q137_157, q137_158, q137_159, hF, eq_true hv, t1, ne0_1, ne0_2, ne0_3, ne0_4, ne0_5, ne0_6, ne0_7, ne0_8, ne0_9, ne0_10, ne0_11, ne0_12, ne1_0, ne1_2, ne1_3, ne1_4, ne1_5, ne1_6, ne1_7, ne1_8, ne1_9, ne1_10, ne1_11, ne1_12, ne2_0, ne2_1, ne2_3, ne2_4, ne2_5, ne2_6, ne2_7, ne2_8, ne2_9, ne2_10, ne2_11, ne2_12, ne3_0, ne3_1, ne3_2, ne3_4, ne3_5, ne3_6, ne3_7, ne3_8, ne3_9, ne3_10, ne3_11, ne3_12, ne4_0, ne4_1, ne4_2, ne4_3, ne4_5, ne4_6, ne4_7, ne4_8, ne4_9, ne4_10, ne4_11, ne4_12, ne5_0, ne5_1, ne5_2, ne5_3, ne5_4, ne5_6, ne5_7, ne5_8, ne5_9, ne5_10, ne5_11, ne5_12, ne6_0, ne6_1, ne6_2, ne6_3, ne6_4, ne6_5, ne6_7, ne6_8, ne6_9, ne6_10, ne6_11, ne6_12, ne7_0, ne7_1, ne7_2, ne7_3, ne7_4, ne7_5, ne7_6, ne7_8, ne7_9, ne7_10, ne7_11, ne7_12, ne8_0, ne8_1, ne8_2, ne8_3, ne8_4, ne8_5, ne8_6, ne8_7, ne8_9, ne8_10, ne8_11, ne8_12, ne9_0, ne9_1, ne9_2, ne9_3, ne9_4, ne9_5, ne9_6, ne9_7, ne9_8, ne9_10, ne9_11, ne9_12, ne10_0, ne10_1, ne10_2, ne10_3, ne10_4, ne10_5, ne10_6, ne10_7, ne10_8, ne10_9, ne10_11, ne10_12, ne11_0, ne11_1, ne11_2, ne11_3, ne11_4, ne11_5, ne11_6, ne11_7, ne11_8, ne11_9, ne11_10, ne11_12, ne12_0, ne12_1, ne12_2, ne12_3, ne12_4, ne12_5, ne12_6, ne12_7, ne12_8, ne12_9, ne12_10, ne12_11, zCall_some, Option.toList, List.cons_append, List.nil_append, zb_0, zb_1, zem, z01, z11, nI_add, ↓reduceIte, not_true_eq_false, not_false_eq_true, n0T, n1F, n11T, true_or, or_true, false_or, i16, r16]
    · skip
      by_cases e1 : what = nI 1
      · subst e1
        simp only [q137_0, q137_1, q137_2, q137_5, q137_8, q137_9, q137_10, q137_11, q137_14, q137_15, q137_64, q137_65, q137_68, q137_70, q137_71, q137_72, q137_73, q137_74, q137_75, q137_78, q137_80, q137_81, q137_82, q137_83, q137_84, q137_85, q137_88, q137_90, q137_91, q137_92, q137_93, q137_94, q137_95, q137_98, q137_99, q137_100, q137_101, q137_102, q137_105, q137_106, q137_107, q137_108, q137_109, q137_112, q137_113, q137_114, q137_116, q137_119, q137_121, q137_124, q137_125, q137_128, q137_129, q137_130, q137_131, q137_134, q137_135, q137_136, q137_137, q137_138, q137_139, q137_142, q137_143, q137_144, q137_145, q137_146, q137_147, q137_150, q137_151, q137_152, q137_155, q137_156, q137_157, q137_158, q137_159, hF, eq_true hv, t1, ne0_1, ne0_2, ne0_3, ne0_4, ne0_5, ne0_6, ne0_7, ne0_8, ne0_9, ne0_10, ne0_11, ne0_12, ne1_0, ne1_2, ne1_3, ne1_4, ne1_5, ne1_6, ne1_7, ne1_8, ne1_9, ne1_10, ne1_11, ne1_12, ne2_0, ne2_1, ne2_3, ne2_4, ne2_5, ne2_6, ne2_7, ne2_8, ne2_9, ne2_10, ne2_11, ne2_12, ne3_0, ne3_1, ne3_2, ne3_4, ne3_5, ne3_6, ne3_7, ne3_8, ne3_9, ne3_10, ne3_11, ne3_12, ne4_0, ne4_1, ne4_2, ne4_3, ne4_5, ne4_6, ne4_7, ne4_8, ne4_9, ne4_10, ne4_11, ne4_12, ne5_0, ne5_1, ne5_2, ne5_3, ne5_4, ne5_6, ne5_7, ne5_8, ne5_9, ne5_10, ne5_11, ne5_12, ne6_0, ne6_1, ne6_2, ne6_3, ne6_4, ne6_5, ne6_7, ne6_8, ne6_9, ne6_10, ne6_11, ne6_12, ne7_0, ne7_1, ne7_2, ne7_3, ne7_4, ne7_5, ne7_6, ne7_8, ne7_9, ne7_10, ne7_11, ne7_12, ne8_0, ne8_1, ne8_2, ne8_3, ne8_4, ne8_5, ne8_6, ne8_7, ne8_9, ne8_10, ne8_11, ne8_12, ne9_0, ne9_1, ne9_2, ne9_3, ne9_4, ne9_5, ne9_6, ne9_7, ne9_8, ne9_10, ne9_11, ne9_12, ne10_0, ne10_1, ne10_2, ne10_3, ne10_4, ne10_5, ne10_6, ne10_7, ne10_8, ne10_9, ne10_11, ne10_12, ne11_0, ne11_1, ne11_2, ne11_3, ne11_4, ne11_5, ne11_6, ne11_7, ne11_8, ne11_9, ne11_10, ne11_12, ne12_0, ne12_1, ne12_2, ne12_3, ne12_4, ne12_5, ne12_6, ne12_7, ne12_8, ne12_9, ne12_10, ne12_11, zCall_some, Option.toList, List.cons_append, List.nil_append, zb_0, zb_1, zem, z01, z11, nI_add, ↓reduceIte, not_true_eq_false, not_false_eq_true, n0T, n1F, n11T, true_or, or_true, false_or, i24, r24]
      · skip
        by_cases e2 : what = nI 2
        · subst e2
          simp only [q137_0, q137_1, q137_2, q137_5, q137_8, q137_9, q137_10, q137_11, q137_14, q137_15, q137_64, q137_65, q137_68, q137_70, q137_71, q137_72, q137_73, q137_74, q137_75, q137_78, q137_80, q137_81, q137_82, q137_83, q137_84, q137_85, q137_88, q137_90, q137_91, q137_92, q137_93, q137_94, q137_95, q137_98, q137_99, q137_100, q137_101, q137_102, q137_105, q137_106, q137_107, q137_108, q137_109, q137_112, q137_113, q137_114, q137_116, q137_119, q137_121, q137_124, q137_125, q137_128, q137_129, q137_130, q137_131, q137_134, q137_135, q137_136, q137_137, q137_138, q137_139, q137_142, q137_143, q137_144, q137_145, q137_146, q137_147, q137_150, q137_151, q137_152, q137_155, q137_156, q137_157, q137_158, q137_159, hF, eq_true hv, t1, ne0_1, ne0_2, ne0_3, ne0_4, ne0_5, ne0_6, ne0_7, ne0_8, ne0_9, ne0_10, ne0_11, ne0_12, ne1_0, ne1_2, ne1_3, ne1_4, ne1_5, ne1_6, ne1_7, ne1_8, ne1_9, ne1_10, ne1_11, ne1_12, ne2_0, ne2_1, ne2_3, ne2_4, ne2_5, ne2_6, ne2_7, ne2_8, ne2_9, ne2_10, ne2_11, ne2_12, ne3_0, ne3_1, ne3_2, ne3_4, ne3_5, ne3_6, ne3_7, ne3_8, ne3_9, ne3_10, ne3_11, ne3_12, ne4_0, ne4_1, ne4_2, ne4_3, ne4_5, ne4_6, ne4_7, ne4_8, ne4_9, ne4_10, ne4_11, ne4_12, ne5_0, ne5_1, ne5_2, ne5_3, ne5_4, ne5_6, ne5_7, ne5_8, ne5_9, ne5_10, ne5_11, ne5_12, ne6_0, ne6_1, ne6_2, ne6_3, ne6_4, ne6_5, ne6_7, ne6_8, ne6_9, ne6_10, ne6_11, ne6_12, ne7_0, ne7_1, ne7_2, ne7_3, ne7_4, ne7_5, ne7_6, ne7_8, ne7_9, ne7_10, ne7_11, ne7_12, ne8_0, ne8_1, ne8_2, ne8_3, ne8_4, ne8_5, ne8_6, ne8_7, ne8_9, ne8_10, ne8_11, ne8_12, ne9_0, ne9_1, ne9_2, ne9_3, ne9_4, ne9_5, ne9_6, ne9_7, ne9_8, ne9_10, ne9_11, ne9_12, ne10_0, ne10_1, ne10_2, ne10_3, ne10_4, ne10_5, ne10_6, ne10_7, ne10_8, ne10_9, ne10_11, ne10_12, ne11_0, ne11_1, ne11_2, ne11_3, ne11_4, ne11_5, ne11_6, ne11_7, ne11_8, ne11_9, ne11_10, ne11_12, ne12_0, ne12_1, ne12_2, ne12_3, ne12_4, ne12_5, ne12_6, ne12_7, ne12_8, ne12_9, ne12_10, ne12_11, zCall_some, Option.toList, List.cons_append, List.nil_append, zb_0, zb_1, zem, z01, z11, nI_add, ↓reduceIte, not_true_eq_false, not_false_eq_true, n0T, n1F, n11T, true_or, or_true, false_or, i32, r32]
        · skip
          by_cases e3 : what = nI 3
          · subst e3
            simp only [q137_0, q137_1, q137_2, q137_5, q137_8, q137_9, q137_10, q137_11, q137_14, q137_15, q137_64, q137_65, q137_68, q137_70, q137_71, q137_72, q137_73, q137_74, q137_75, q137_78, q137_80, q137_81, q137_82, q137_83, q137_84, q137_85, q137_88, q137_90, q137_91, q137_92, q137_93, q137_94, q137_95, q137_98, q137_99, q137_100, q137_101, q137_102, q137_105, q137_106, q137_107, q137_108, q137_109, q137_112, q137_113, q137_114, q137_116, q137_119, q137_121, q137_124, q137_125, q137_128, q137_129, q137_130, q137_131, q137_134, q137_135, q137_136, q137_137, q137_138, q137_139, q137_142, q137_143, q137_144, q137_145, q137_146, q137_147, q137_150, q137_151, q137_152, q137_155, q137_156, q137_157, q137_158, q137_159, hF, eq_true hv, t1, ne0_1, ne0_2, ne0_3, ne0_4, ne0_5, ne0_6, ne0_7, ne0_8, ne0_9, ne0_10, ne0_11, ne0_12, ne1_0, ne1_2, ne1_3, ne1_4, ne1_5, ne1_6, ne1_7, ne1_8, ne1_9, ne1_10, ne1_11, ne1_12, ne2_0, ne2_1, ne2_3, ne2_4, ne2_5, ne2_6, ne2_7, ne2_8, ne2_9, ne2_10, ne2_11, ne2_12, ne3_0, ne3_1, ne3_2, ne3_4, ne3_5, ne3_6, ne3_7, ne3_8, ne3_9, ne3_10, ne3_11, ne3_12, ne4_0, ne4_1, ne4_2, ne4_3, ne4_5, ne4_6, ne4_7, ne4_8, ne4_9, ne4_10, ne4_11, ne4_12, ne5_0, ne5_1, ne5_2, ne5_3, ne5_4, ne5_6, ne5_7, ne5_8, ne5_9, ne5_10, ne5_11, ne5_12, ne6_0, ne6_1, ne6_2, ne6_3, ne6_4, ne6_5, ne6_7, ne6_8, ne6_9, ne6_10, ne6_11, ne6_12, ne7_0, ne7_1, ne7_2, ne7_3, ne7_4, ne7_5, ne7_6, ne7_8, ne7_9, ne7_10, ne7_11, ne7_12, ne8_0, ne8_1, ne8_2, ne8_3, ne8_4, ne8_5, ne8_6, ne8_7, ne8_9, ne8_10, ne8_11, ne8_12, ne9_0, ne9_1, ne9_2, ne9_3, ne9_4, ne9_5, ne9_6, ne9_7, ne9_8, ne9_10, ne9_11, ne9_12, ne10_0, ne10_1, ne10_2, ne10_3, ne10_4, ne10_5, ne10_6, ne10_7, ne10_8, ne10_9, ne10_11, ne10_12, ne11_0, ne11_1, ne11_2, ne11_3, ne11_4, ne11_5, ne11_6, ne11_7, ne11_8, ne11_9, ne11_10, ne11_12, ne12_0, ne12_1, ne12_2, ne12_3, ne12_4, ne12_5, ne12_6, ne12_7, ne12_8, ne12_9, ne12_10, ne12_11, zCall_some, Option.toList, List.cons_append, List.nil_append, zb_0, zb_1, zem, z01, z11, nI_add, ↓reduceIte, not_true_eq_false, not_false_eq_true, n0T, n1F, n11T, true_or, or_true, false_or, i93, r93]
          · skip
            by_cases e4 : what = nI 4
            · subst e4
              simp only [q137_0, q137_1, q137_2, q137_5, q137_8, q137_9, q137_10, q137_11, q137_14, q137_15, q137_64, q137_65, q137_68, q137_70, q137_71, q137_72, q137_73, q137_74, q137_75, q137_78, q137_80, q137_81, q137_82, q137_83, q137_84, q137_85, q137_88, q137_90, q137_91, q137_92, q137_93, q137_94, q137_95, q137_98, q137_99, q137_100, q137_101, q137_102, q137_105, q137_106, q137_107, q137_108, q137_109, q137_112, q137_113, q137_114, q137_116, q137_119, q137_121, q137_124, q137_125, q137_128, q137_129, q137_130, q137_131, q137_134, q137_135, q137_136, q137_137, q137_138, q137_139, q137_142, q137_143, q137_144, q137_145, q137_146, q137_147, q137_150, q137_151, q137_152, q137_155, q137_156, q137_157, q137_158, q137_159, hF, eq_true hv, t1, ne0_1, ne0_2, ne0_3, ne0_4, ne0_5, ne0_6, ne0_7, ne0_8, ne0_9, ne0_10, ne0_11, ne0_12, ne1_0, ne1_2, ne1_3, ne1_4, ne1_5, ne1_6, ne1_7, ne1_8, ne1_9, ne1_10, ne1_11, ne1_12, ne2_0, ne2_1, ne2_3, ne2_4, ne2_5, ne2_6, ne2_7, ne2_8, ne2_9, ne2_10, ne2_11, ne2_12, ne3_0, ne3_1, ne3_2, ne3_4, ne3_5, ne3_6, ne3_7, ne3_8, ne3_9, ne3_10, ne3_11, ne3_12, ne4_0, ne4_1, ne4_2, ne4_3, ne4_5, ne4_6, ne4_7, ne4_8, ne4_9, ne4_10, ne4_11, ne4_12, ne5_0, ne5_1, ne5_2, ne5_3, ne5_4, ne5_6, ne5_7, ne5_8, ne5_9, ne5_10, ne5_11, ne5_12, ne6_0, ne6_1, ne6_2, ne6_3, ne6_4, ne6_5, ne6_7, ne6_8, ne6_9, ne6_10, ne6_11, ne6_12, ne7_0, ne7_1, ne7_2, ne7_3, ne7_4, ne7_5, ne7_6, ne7_8, ne7_9, ne7_10, ne7_11, ne7_12, ne8_0, ne8_1, ne8_2, ne8_3, ne8_4, ne8_5, ne8_6, ne8_7, ne8_9, ne8_10, ne8_11, ne8_12, ne9_0, ne9_1, ne9_2, ne9_3, ne9_4, ne9_5, ne9_6, ne9_7, ne9_8, ne9_10, ne9_11, ne9_12, ne10_0, ne10_1, ne10_2, ne10_3, ne10_4, ne10_5, ne10_6, ne10_7, ne10_8, ne10_9, ne10_11, ne10_12, ne11_0, ne11_1, ne11_2, ne11_3, ne11_4, ne11_5, ne11_6, ne11_7, ne11_8, ne11_9, ne11_10, ne11_12, ne12_0, ne12_1, ne12_2, ne12_3, ne12_4, ne12_5, ne12_6, ne12_7, ne12_8, ne12_9, ne12_10, ne12_11, zCall_some, Option.toList, List.cons_append, List.nil_append, zb_0, zb_1, zem, z01, z11, nI_add, ↓reduceIte, not_true_eq_false, not_false_eq_true, n0T, n1F, n11T, true_or, or_true, false_or, i94, r94]
            · skip
              by_cases e5 : what = nI 5
              · subst e5
                unfold endF
                unfold begF at r94
                rcases pl_cases hVR (σ 3) g with ⟨i, h1, h2, h3⟩ | ⟨-, h3⟩
                · have hi : i < 2 ^ 31 := by have := oL_le hVR (σ 3); omega
                  have hst := st_le hVR hTr h1
                  rw [ix_of hi h3, h3, if_neg (nI_n5 hi)] at r94
                  rw [ix_of hi h3, h3, if_neg (nI_n5 hi)]
                  have n5 := nI_n5 (i := stN σ (σ 3) true i) (by omega)
                  simp only [q137_0, q137_1, q137_2, q137_5, q137_8, q137_9, q137_10, q137_11, q137_14, q137_15, q137_64, q137_65, q137_68, q137_70, q137_71, q137_72, q137_73, q137_74, q137_75, q137_78, q137_80, q137_81, q137_82, q137_83, q137_84, q137_85, q137_88, q137_90, q137_91, q137_92, q137_93, q137_94, q137_95, q137_98, q137_99, q137_100, q137_101, q137_102, q137_105, q137_106, q137_107, q137_108, q137_109, q137_112, q137_113, q137_114, q137_116, q137_119, q137_121, q137_124, q137_125, q137_128, q137_129, q137_130, q137_131, q137_134, q137_135, q137_136, q137_137, q137_138, q137_139, q137_142, q137_143, q137_144, q137_145, q137_146, q137_147, q137_150, q137_151, q137_152, q137_155, q137_156, q137_157, q137_158, q137_159, hF, eq_true hv, t1, ne0_1, ne0_2, ne0_3, ne0_4, ne0_5, ne0_6, ne0_7, ne0_8, ne0_9, ne0_10, ne0_11, ne0_12, ne1_0, ne1_2, ne1_3, ne1_4, ne1_5, ne1_6, ne1_7, ne1_8, ne1_9, ne1_10, ne1_11, ne1_12, ne2_0, ne2_1, ne2_3, ne2_4, ne2_5, ne2_6, ne2_7, ne2_8, ne2_9, ne2_10, ne2_11, ne2_12, ne3_0, ne3_1, ne3_2, ne3_4, ne3_5, ne3_6, ne3_7, ne3_8, ne3_9, ne3_10, ne3_11, ne3_12, ne4_0, ne4_1, ne4_2, ne4_3, ne4_5, ne4_6, ne4_7, ne4_8, ne4_9, ne4_10, ne4_11, ne4_12, ne5_0, ne5_1, ne5_2, ne5_3, ne5_4, ne5_6, ne5_7, ne5_8, ne5_9, ne5_10, ne5_11, ne5_12, ne6_0, ne6_1, ne6_2, ne6_3, ne6_4, ne6_5, ne6_7, ne6_8, ne6_9, ne6_10, ne6_11, ne6_12, ne7_0, ne7_1, ne7_2, ne7_3, ne7_4, ne7_5, ne7_6, ne7_8, ne7_9, ne7_10, ne7_11, ne7_12, ne8_0, ne8_1, ne8_2, ne8_3, ne8_4, ne8_5, ne8_6, ne8_7, ne8_9, ne8_10, ne8_11, ne8_12, ne9_0, ne9_1, ne9_2, ne9_3, ne9_4, ne9_5, ne9_6, ne9_7, ne9_8, ne9_10, ne9_11, ne9_12, ne10_0, ne10_1, ne10_2, ne10_3, ne10_4, ne10_5, ne10_6, ne10_7, ne10_8, ne10_9, ne10_11, ne10_12, ne11_0, ne11_1, ne11_2, ne11_3, ne11_4, ne11_5, ne11_6, ne11_7, ne11_8, ne11_9, ne11_10, ne11_12, ne12_0, ne12_1, ne12_2, ne12_3, ne12_4, ne12_5, ne12_6, ne12_7, ne12_8, ne12_9, ne12_10, ne12_11, zCall_some, Option.toList, List.cons_append, List.nil_append, zb_0, zb_1, zem, z01, z11, nI_add, ↓reduceIte, not_true_eq_false, not_false_eq_true, n0T, n1F, n11T, true_or, or_true, false_or, i93, i94, r93, r94, n5]
                · rw [h3, if_pos rfl] at r94
                  rw [h3, if_pos rfl]
                  simp only [q137_0, q137_1, q137_2, q137_5, q137_8, q137_9, q137_10, q137_11, q137_14, q137_15, q137_64, q137_65, q137_68, q137_70, q137_71, q137_72, q137_73, q137_74, q137_75, q137_78, q137_80, q137_81, q137_82, q137_83, q137_84, q137_85, q137_88, q137_90, q137_91, q137_92, q137_93, q137_94, q137_95, q137_98, q137_99, q137_100, q137_101, q137_102, q137_105, q137_106, q137_107, q137_108, q137_109, q137_112, q137_113, q137_114, q137_116, q137_119, q137_121, q137_124, q137_125, q137_128, q137_129, q137_130, q137_131, q137_134, q137_135, q137_136, q137_137, q137_138, q137_139, q137_142, q137_143, q137_144, q137_145, q137_146, q137_147, q137_150, q137_151, q137_152, q137_155, q137_156, q137_157, q137_158, q137_159, hF, eq_true hv, t1, ne0_1, ne0_2, ne0_3, ne0_4, ne0_5, ne0_6, ne0_7, ne0_8, ne0_9, ne0_10, ne0_11, ne0_12, ne1_0, ne1_2, ne1_3, ne1_4, ne1_5, ne1_6, ne1_7, ne1_8, ne1_9, ne1_10, ne1_11, ne1_12, ne2_0, ne2_1, ne2_3, ne2_4, ne2_5, ne2_6, ne2_7, ne2_8, ne2_9, ne2_10, ne2_11, ne2_12, ne3_0, ne3_1, ne3_2, ne3_4, ne3_5, ne3_6, ne3_7, ne3_8, ne3_9, ne3_10, ne3_11, ne3_12, ne4_0, ne4_1, ne4_2, ne4_3, ne4_5, ne4_6, ne4_7, ne4_8, ne4_9, ne4_10, ne4_11, ne4_12, ne5_0, ne5_1, ne5_2, ne5_3, ne5_4, ne5_6, ne5_7, ne5_8, ne5_9, ne5_10, ne5_11, ne5_12, ne6_0, ne6_1, ne6_2, ne6_3, ne6_4, ne6_5, ne6_7, ne6_8, ne6_9, ne6_10, ne6_11, ne6_12, ne7_0, ne7_1, ne7_2, ne7_3, ne7_4, ne7_5, ne7_6, ne7_8, ne7_9, ne7_10, ne7_11, ne7_12, ne8_0, ne8_1, ne8_2, ne8_3, ne8_4, ne8_5, ne8_6, ne8_7, ne8_9, ne8_10, ne8_11, ne8_12, ne9_0, ne9_1, ne9_2, ne9_3, ne9_4, ne9_5, ne9_6, ne9_7, ne9_8, ne9_10, ne9_11, ne9_12, ne10_0, ne10_1, ne10_2, ne10_3, ne10_4, ne10_5, ne10_6, ne10_7, ne10_8, ne10_9, ne10_11, ne10_12, ne11_0, ne11_1, ne11_2, ne11_3, ne11_4, ne11_5, ne11_6, ne11_7, ne11_8, ne11_9, ne11_10, ne11_12, ne12_0, ne12_1, ne12_2, ne12_3, ne12_4, ne12_5, ne12_6, ne12_7, ne12_8, ne12_9, ne12_10, ne12_11, zCall_some, Option.toList, List.cons_append, List.nil_append, zb_0, zb_1, zem, z01, z11, nI_add, ↓reduceIte, not_true_eq_false, not_false_eq_true, n0T, n1F, n11T, true_or, or_true, false_or, i93, i94, r93, r94]
              · skip
                by_cases e6 : what = nI 6
                · subst e6
                  simp only [q137_0, q137_1, q137_2, q137_5, q137_8, q137_9, q137_10, q137_11, q137_14, q137_15, q137_64, q137_65, q137_68, q137_70, q137_71, q137_72, q137_73, q137_74, q137_75, q137_78, q137_80, q137_81, q137_82, q137_83, q137_84, q137_85, q137_88, q137_90, q137_91, q137_92, q137_93, q137_94, q137_95, q137_98, q137_99, q137_100, q137_101, q137_102, q137_105, q137_106, q137_107, q137_108, q137_109, q137_112, q137_113, q137_114, q137_116, q137_119, q137_121, q137_124, q137_125, q137_128, q137_129, q137_130, q137_131, q137_134, q137_135, q137_136, q137_137, q137_138, q137_139, q137_142, q137_143, q137_144, q137_145, q137_146, q137_147, q137_150, q137_151, q137_152, q137_155, q137_156, q137_157, q137_158, q137_159, hF, eq_true hv, t1, ne0_1, ne0_2, ne0_3, ne0_4, ne0_5, ne0_6, ne0_7, ne0_8, ne0_9, ne0_10, ne0_11, ne0_12, ne1_0, ne1_2, ne1_3, ne1_4, ne1_5, ne1_6, ne1_7, ne1_8, ne1_9, ne1_10, ne1_11, ne1_12, ne2_0, ne2_1, ne2_3, ne2_4, ne2_5, ne2_6, ne2_7, ne2_8, ne2_9, ne2_10, ne2_11, ne2_12, ne3_0, ne3_1, ne3_2, ne3_4, ne3_5, ne3_6, ne3_7, ne3_8, ne3_9, ne3_10, ne3_11, ne3_12, ne4_0, ne4_1, ne4_2, ne4_3, ne4_5, ne4_6, ne4_7, ne4_8, ne4_9, ne4_10, ne4_11, ne4_12, ne5_0, ne5_1, ne5_2, ne5_3, ne5_4, ne5_6, ne5_7, ne5_8, ne5_9, ne5_10, ne5_11, ne5_12, ne6_0, ne6_1, ne6_2, ne6_3, ne6_4, ne6_5, ne6_7, ne6_8, ne6_9, ne6_10, ne6_11, ne6_12, ne7_0, ne7_1, ne7_2, ne7_3, ne7_4, ne7_5, ne7_6, ne7_8, ne7_9, ne7_10, ne7_11, ne7_12, ne8_0, ne8_1, ne8_2, ne8_3, ne8_4, ne8_5, ne8_6, ne8_7, ne8_9, ne8_10, ne8_11, ne8_12, ne9_0, ne9_1, ne9_2, ne9_3, ne9_4, ne9_5, ne9_6, ne9_7, ne9_8, ne9_10, ne9_11, ne9_12, ne10_0, ne10_1, ne10_2, ne10_3, ne10_4, ne10_5, ne10_6, ne10_7, ne10_8, ne10_9, ne10_11, ne10_12, ne11_0, ne11_1, ne11_2, ne11_3, ne11_4, ne11_5, ne11_6, ne11_7, ne11_8, ne11_9, ne11_10, ne11_12, ne12_0, ne12_1, ne12_2, ne12_3, ne12_4, ne12_5, ne12_6, ne12_7, ne12_8, ne12_9, ne12_10, ne12_11, zCall_some, Option.toList, List.cons_append, List.nil_append, zb_0, zb_1, zem, z01, z11, nI_add, ↓reduceIte, not_true_eq_false, not_false_eq_true, n0T, n1F, n11T, true_or, or_true, false_or, i95, r95]
                · skip
                  by_cases e7 : what = nI 7
                  · subst e7
                    simp only [q137_0, q137_1, q137_2, q137_5, q137_8, q137_9, q137_10, q137_11, q137_14, q137_15, q137_64, q137_65, q137_68, q137_70, q137_71, q137_72, q137_73, q137_74, q137_75, q137_78, q137_80, q137_81, q137_82, q137_83, q137_84, q137_85, q137_88, q137_90, q137_91, q137_92, q137_93, q137_94, q137_95, q137_98, q137_99, q137_100, q137_101, q137_102, q137_105, q137_106, q137_107, q137_108, q137_109, q137_112, q137_113, q137_114, q137_116, q137_119, q137_121, q137_124, q137_125, q137_128, q137_129, q137_130, q137_131, q137_134, q137_135, q137_136, q137_137, q137_138, q137_139, q137_142, q137_143, q137_144, q137_145, q137_146, q137_147, q137_150, q137_151, q137_152, q137_155, q137_156, q137_157, q137_158, q137_159, hF, eq_true hv, t1, ne0_1, ne0_2, ne0_3, ne0_4, ne0_5, ne0_6, ne0_7, ne0_8, ne0_9, ne0_10, ne0_11, ne0_12, ne1_0, ne1_2, ne1_3, ne1_4, ne1_5, ne1_6, ne1_7, ne1_8, ne1_9, ne1_10, ne1_11, ne1_12, ne2_0, ne2_1, ne2_3, ne2_4, ne2_5, ne2_6, ne2_7, ne2_8, ne2_9, ne2_10, ne2_11, ne2_12, ne3_0, ne3_1, ne3_2, ne3_4, ne3_5, ne3_6, ne3_7, ne3_8, ne3_9, ne3_10, ne3_11, ne3_12, ne4_0, ne4_1, ne4_2, ne4_3, ne4_5, ne4_6, ne4_7, ne4_8, ne4_9, ne4_10, ne4_11, ne4_12, ne5_0, ne5_1, ne5_2, ne5_3, ne5_4, ne5_6, ne5_7, ne5_8, ne5_9, ne5_10, ne5_11, ne5_12, ne6_0, ne6_1, ne6_2, ne6_3, ne6_4, ne6_5, ne6_7, ne6_8, ne6_9, ne6_10, ne6_11, ne6_12, ne7_0, ne7_1, ne7_2, ne7_3, ne7_4, ne7_5, ne7_6, ne7_8, ne7_9, ne7_10, ne7_11, ne7_12, ne8_0, ne8_1, ne8_2, ne8_3, ne8_4, ne8_5, ne8_6, ne8_7, ne8_9, ne8_10, ne8_11, ne8_12, ne9_0, ne9_1, ne9_2, ne9_3, ne9_4, ne9_5, ne9_6, ne9_7, ne9_8, ne9_10, ne9_11, ne9_12, ne10_0, ne10_1, ne10_2, ne10_3, ne10_4, ne10_5, ne10_6, ne10_7, ne10_8, ne10_9, ne10_11, ne10_12, ne11_0, ne11_1, ne11_2, ne11_3, ne11_4, ne11_5, ne11_6, ne11_7, ne11_8, ne11_9, ne11_10, ne11_12, ne12_0, ne12_1, ne12_2, ne12_3, ne12_4, ne12_5, ne12_6, ne12_7, ne12_8, ne12_9, ne12_10, ne12_11, zCall_some, Option.toList, List.cons_append, List.nil_append, zb_0, zb_1, zem, z01, z11, nI_add, ↓reduceIte, not_true_eq_false, not_false_eq_true, n0T, n1F, n11T, true_or, or_true, false_or, m_water hR1 hVR k8 hg]
                  · skip
                    by_cases e8 : what = nI 8
                    · subst e8
                      simp only [q137_0, q137_1, q137_2, q137_5, q137_8, q137_9, q137_10, q137_11, q137_14, q137_15, q137_64, q137_65, q137_68, q137_70, q137_71, q137_72, q137_73, q137_74, q137_75, q137_78, q137_80, q137_81, q137_82, q137_83, q137_84, q137_85, q137_88, q137_90, q137_91, q137_92, q137_93, q137_94, q137_95, q137_98, q137_99, q137_100, q137_101, q137_102, q137_105, q137_106, q137_107, q137_108, q137_109, q137_112, q137_113, q137_114, q137_116, q137_119, q137_121, q137_124, q137_125, q137_128, q137_129, q137_130, q137_131, q137_134, q137_135, q137_136, q137_137, q137_138, q137_139, q137_142, q137_143, q137_144, q137_145, q137_146, q137_147, q137_150, q137_151, q137_152, q137_155, q137_156, q137_157, q137_158, q137_159, hF, eq_true hv, t1, ne0_1, ne0_2, ne0_3, ne0_4, ne0_5, ne0_6, ne0_7, ne0_8, ne0_9, ne0_10, ne0_11, ne0_12, ne1_0, ne1_2, ne1_3, ne1_4, ne1_5, ne1_6, ne1_7, ne1_8, ne1_9, ne1_10, ne1_11, ne1_12, ne2_0, ne2_1, ne2_3, ne2_4, ne2_5, ne2_6, ne2_7, ne2_8, ne2_9, ne2_10, ne2_11, ne2_12, ne3_0, ne3_1, ne3_2, ne3_4, ne3_5, ne3_6, ne3_7, ne3_8, ne3_9, ne3_10, ne3_11, ne3_12, ne4_0, ne4_1, ne4_2, ne4_3, ne4_5, ne4_6, ne4_7, ne4_8, ne4_9, ne4_10, ne4_11, ne4_12, ne5_0, ne5_1, ne5_2, ne5_3, ne5_4, ne5_6, ne5_7, ne5_8, ne5_9, ne5_10, ne5_11, ne5_12, ne6_0, ne6_1, ne6_2, ne6_3, ne6_4, ne6_5, ne6_7, ne6_8, ne6_9, ne6_10, ne6_11, ne6_12, ne7_0, ne7_1, ne7_2, ne7_3, ne7_4, ne7_5, ne7_6, ne7_8, ne7_9, ne7_10, ne7_11, ne7_12, ne8_0, ne8_1, ne8_2, ne8_3, ne8_4, ne8_5, ne8_6, ne8_7, ne8_9, ne8_10, ne8_11, ne8_12, ne9_0, ne9_1, ne9_2, ne9_3, ne9_4, ne9_5, ne9_6, ne9_7, ne9_8, ne9_10, ne9_11, ne9_12, ne10_0, ne10_1, ne10_2, ne10_3, ne10_4, ne10_5, ne10_6, ne10_7, ne10_8, ne10_9, ne10_11, ne10_12, ne11_0, ne11_1, ne11_2, ne11_3, ne11_4, ne11_5, ne11_6, ne11_7, ne11_8, ne11_9, ne11_10, ne11_12, ne12_0, ne12_1, ne12_2, ne12_3, ne12_4, ne12_5, ne12_6, ne12_7, ne12_8, ne12_9, ne12_10, ne12_11, zCall_some, Option.toList, List.cons_append, List.nil_append, zb_0, zb_1, zem, z01, z11, nI_add, ↓reduceIte, not_true_eq_false, not_false_eq_true, n0T, n1F, n11T, true_or, or_true, false_or, i92, r92]
                    · skip
                      simp only [q137_0, q137_1, q137_2, q137_5, q137_8, q137_9, q137_10, q137_11, q137_14, q137_15, q137_64, q137_65, q137_68, q137_70, q137_71, q137_72, q137_73, q137_74, q137_75, q137_78, q137_80, q137_81, q137_82, q137_83, q137_84, q137_85, q137_88, q137_90, q137_91, q137_92, q137_93, q137_94, q137_95, q137_98, q137_99, q137_100, q137_101, q137_102, q137_105, q137_106, q137_107, q137_108, q137_109, q137_112, q137_113, q137_114, q137_116, q137_119, q137_121, q137_124, q137_125, q137_128, q137_129, q137_130, q137_131, q137_134, q137_135, q137_136, q137_137, q137_138, q137_139, q137_142, q137_143, q137_144, q137_145, q137_146, q137_147, q137_150, q137_151, q137_152, q137_155, q137_156, q137_157, q137_158, q137_159, hF, eq_true hv, t1, ne0_1, ne0_2, ne0_3, ne0_4, ne0_5, ne0_6, ne0_7, ne0_8, ne0_9, ne0_10, ne0_11, ne0_12, ne1_0, ne1_2, ne1_3, ne1_4, ne1_5, ne1_6, ne1_7, ne1_8, ne1_9, ne1_10, ne1_11, ne1_12, ne2_0, ne2_1, ne2_3, ne2_4, ne2_5, ne2_6, ne2_7, ne2_8, ne2_9, ne2_10, ne2_11, ne2_12, ne3_0, ne3_1, ne3_2, ne3_4, ne3_5, ne3_6, ne3_7, ne3_8, ne3_9, ne3_10, ne3_11, ne3_12, ne4_0, ne4_1, ne4_2, ne4_3, ne4_5, ne4_6, ne4_7, ne4_8, ne4_9, ne4_10, ne4_11, ne4_12, ne5_0, ne5_1, ne5_2, ne5_3, ne5_4, ne5_6, ne5_7, ne5_8, ne5_9, ne5_10, ne5_11, ne5_12, ne6_0, ne6_1, ne6_2, ne6_3, ne6_4, ne6_5, ne6_7, ne6_8, ne6_9, ne6_10, ne6_11, ne6_12, ne7_0, ne7_1, ne7_2, ne7_3, ne7_4, ne7_5, ne7_6, ne7_8, ne7_9, ne7_10, ne7_11, ne7_12, ne8_0, ne8_1, ne8_2, ne8_3, ne8_4, ne8_5, ne8_6, ne8_7, ne8_9, ne8_10, ne8_11, ne8_12, ne9_0, ne9_1, ne9_2, ne9_3, ne9_4, ne9_5, ne9_6, ne9_7, ne9_8, ne9_10, ne9_11, ne9_12, ne10_0, ne10_1, ne10_2, ne10_3, ne10_4, ne10_5, ne10_6, ne10_7, ne10_8, ne10_9, ne10_11, ne10_12, ne11_0, ne11_1, ne11_2, ne11_3, ne11_4, ne11_5, ne11_6, ne11_7, ne11_8, ne11_9, ne11_10, ne11_12, ne12_0, ne12_1, ne12_2, ne12_3, ne12_4, ne12_5, ne12_6, ne12_7, ne12_8, ne12_9, ne12_10, ne12_11, zCall_some, Option.toList, List.cons_append, List.nil_append, zb_0, zb_1, zem, z01, z11, nI_add, ↓reduceIte, not_true_eq_false, not_false_eq_true, n0T, n1F, n11T, true_or, or_true, false_or, e0, e1, e2, e3, e4, e5, e6, e7, e8]
  · refine ⟨f, a, ?_, ⟨fun _ _ => rfl, fun _ _ _ _ => rfl, fun _ _ => rfl⟩⟩
    rw [if_neg hv]
    simp only [q137_0, q137_1, q137_2, q137_5, q137_8, q137_9, q137_10, q137_11, q137_14, q137_15, q137_64, q137_65, q137_68, q137_70, q137_71, q137_72, q137_73, q137_74, q137_75, q137_78, q137_80, q137_81, q137_82, q137_83, q137_84, q137_85, q137_88, q137_90, q137_91, q137_92, q137_93, q137_94, q137_95, q137_98, q137_99, q137_100, q137_101, q137_102, q137_105, q137_106, q137_107, q137_108, q137_109, q137_112, q137_113, q137_114, q137_116, q137_119, q137_121, q137_124, q137_125, q137_128, q137_129, q137_130, q137_131, q137_134, q137_135, q137_136, q137_137, q137_138, q137_139, q137_142, q137_143, q137_144, q137_145, q137_146, q137_147, q137_150, q137_151, q137_152, q137_155, q137_156, q137_157, q137_158, q137_159, hF, eq_false hv, zCall_some, Option.toList, List.cons_append, List.nil_append, zb_0, zb_1, zem, z01, z11, nI_add, ↓reduceIte, not_true_eq_false, not_false_eq_true, n0T, n1F, n11T, true_or, or_true, false_or]
theorem y_turn {sc : Int32 × (Int32 → Int32)} {f : zF} {a : zA} {j : zJ} {d : Nat} {σ : Nat → Nat} {k : Int32} (hR : MR σ a) (hV : VS σ) : ∃ (f' : zF) (a' : zA), cf sc (d + 7) 146 [.ref 85, .int k] f a j = some (some (.int (sTurn σ k)), f', a', j) ∧ MF f f' a a' := by
  have hVR := hV.1.1
  have hn := hVR.1
  have hl := oL_le hVR (σ 3)
  obtain ⟨f1, a1, t1, t2, t3⟩ := m_now (sc := sc) (d := d) (f := f) (j := j) hR hV
  refine ⟨f1, a1, ?_, t3⟩
  obtain ⟨⟨k1, k2, k3, k4, k5, k6, k7⟩, k8, k9⟩ := t2
  rw [en146]
  unfold sTurn
  by_cases hv : zHas k (oL σ (σ 3)).length
  · obtain ⟨g, hg, rfl⟩ := zHas_of (by omega) hv
    have ec : (nI g).toNatClampNeg = g := nI_clamp (by omega)
    have ix := ix90 (q := g) (by omega)
    have er := k5 g hg
    rw [if_pos hv, ec]
    simp only [q146_0, q146_1, q146_4, q146_5, q146_6, q146_7, q146_8, q146_11, q146_12, q146_13, q146_14, q146_17, q146_20, q146_21, q146_24, q146_25, q146_26, q146_29, q146_30, t1, k1, inHas (show (oL σ (σ 3)).length ≤ 1000 by omega), eq_true hv, ix, er, zCall_some, Option.toList, List.cons_append, List.nil_append, zb_0, zb_1, zem, z01, z11, nI_add, ↓reduceIte, not_true_eq_false, not_false_eq_true, n0T, n1F, n11T, true_or, or_true, false_or]
  · rw [if_neg hv]
    simp only [q146_0, q146_1, q146_4, q146_5, q146_6, q146_7, q146_8, q146_11, q146_12, q146_13, q146_14, q146_17, q146_20, q146_21, q146_24, q146_25, q146_26, q146_29, q146_30, t1, k1, inHas (show (oL σ (σ 3)).length ≤ 1000 by omega), eq_false hv, zCall_some, Option.toList, List.cons_append, List.nil_append, zb_0, zb_1, zem, z01, z11, nI_add, ↓reduceIte, not_true_eq_false, not_false_eq_true, n0T, n1F, n11T, true_or, or_true, false_or]
theorem y_lag {sc : Int32 × (Int32 → Int32)} {f : zF} {a : zA} {j : zJ} {d : Nat} {σ : Nat → Nat} {k : Int32} (hR : MR σ a) (hV : VS σ) : ∃ (f' : zF) (a' : zA), cf sc (d + 7) 147 [.ref 85, .int k] f a j = some (some (.int (sLag σ k)), f', a', j) ∧ MF f f' a a' := by
  have hVR := hV.1.1
  have hn := hVR.1
  have hl := oL_le hVR (σ 3)
  obtain ⟨f1, a1, t1, t2, t3⟩ := m_now (sc := sc) (d := d) (f := f) (j := j) hR hV
  refine ⟨f1, a1, ?_, t3⟩
  obtain ⟨⟨k1, k2, k3, k4, k5, k6, k7⟩, k8, k9⟩ := t2
  rw [en147]
  unfold sLag
  by_cases hv : zHas k (oL σ (σ 3)).length
  · obtain ⟨g, hg, rfl⟩ := zHas_of (by omega) hv
    have ec : (nI g).toNatClampNeg = g := nI_clamp (by omega)
    have ix := ix91 (q := g) (by omega)
    have er := k6 g hg
    rw [if_pos hv, ec]
    simp only [q147_0, q147_1, q147_4, q147_5, q147_6, q147_7, q147_8, q147_11, q147_12, q147_13, q147_14, q147_17, q147_20, q147_21, q147_24, q147_25, q147_26, q147_29, q147_30, t1, k1, inHas (show (oL σ (σ 3)).length ≤ 1000 by omega), eq_true hv, ix, er, zCall_some, Option.toList, List.cons_append, List.nil_append, zb_0, zb_1, zem, z01, z11, nI_add, ↓reduceIte, not_true_eq_false, not_false_eq_true, n0T, n1F, n11T, true_or, or_true, false_or]
  · rw [if_neg hv]
    simp only [q147_0, q147_1, q147_4, q147_5, q147_6, q147_7, q147_8, q147_11, q147_12, q147_13, q147_14, q147_17, q147_20, q147_21, q147_24, q147_25, q147_26, q147_29, q147_30, t1, k1, inHas (show (oL σ (σ 3)).length ≤ 1000 by omega), eq_false hv, zCall_some, Option.toList, List.cons_append, List.nil_append, zb_0, zb_1, zem, z01, z11, nI_add, ↓reduceIte, not_true_eq_false, not_false_eq_true, n0T, n1F, n11T, true_or, or_true, false_or]
theorem y_line {sc : Int32 × (Int32 → Int32)} {f : zF} {a : zA} {j : zJ} {d : Nat} {σ : Nat → Nat} {k : Int32} (hR : MR σ a) (hV : VS σ) : ∃ a' : zA, cf sc (d + 2) 148 [.ref 85, .int k] f a j = some (some (.int (sLine σ k)), f, a', j) ∧ ∀ k, k ≠ 89 → a' k = a k := by
  have hVR := hV.1.1
  have hn := hVR.1
  obtain ⟨a1, t1, t2, t3⟩ := m_lines (sc := sc) (d := d) (f := f) (j := j) hR hVR
  refine ⟨a1, ?_, t3⟩
  have ix0 : zIx 21 86 (nI 0) := ix86 (by omega)
  have e0 := (hR.of (t3 86 (by omega))) 0 (by omega)
  rw [en148]
  unfold sLine
  by_cases hv : zHas k (σ 0)
  · obtain ⟨g, hg, rfl⟩ := zHas_of (by omega) hv
    have ec : (nI g).toNatClampNeg = g := nI_clamp (by omega)
    have ix : zIx 21 89 (nI g) := ix89 (by omega)
    have er : a1 89 (nI g) = nI (lnA σ g) := t2 g (by rw [ln_len hVR]; exact hg)
    rw [if_pos hv, ec]
    simp only [q148_0, q148_1, q148_4, q148_5, q148_6, q148_7, q148_8, q148_11, q148_12, q148_13, q148_14, q148_15, q148_16, q148_19, q148_22, q148_23, q148_26, q148_27, q148_28, q148_31, q148_32, t1, ix0, e0, inHas (show σ 0 ≤ 1000 by omega), eq_true hv, ix, er, zCall_some, Option.toList, List.cons_append, List.nil_append, zb_0, zb_1, zem, z01, z11, nI_add, ↓reduceIte, not_true_eq_false, not_false_eq_true, n0T, n1F, n11T, true_or, or_true, false_or]
  · rw [if_neg hv]
    simp only [q148_0, q148_1, q148_4, q148_5, q148_6, q148_7, q148_8, q148_11, q148_12, q148_13, q148_14, q148_15, q148_16, q148_19, q148_22, q148_23, q148_26, q148_27, q148_28, q148_31, q148_32, t1, ix0, e0, inHas (show σ 0 ≤ 1000 by omega), eq_false hv, zCall_some, Option.toList, List.cons_append, List.nil_append, zb_0, zb_1, zem, z01, z11, nI_add, ↓reduceIte, not_true_eq_false, not_false_eq_true, n0T, n1F, n11T, true_or, or_true, false_or]
theorem y_who {sc : Int32 × (Int32 → Int32)} {f : zF} {a : zA} {j : zJ} {d : Nat} {σ : Nat → Nat} {t : Int32} (hR : MR σ a) (hV : VS σ) : ∃ (r : Int32) (f' : zF) (a' : zA), cf sc (d + 7) 149 [.ref 85, .int t] f a j = some (some (.int r), f', a', j) ∧ (if zBtw t 0 95 then WhoP σ t.toNatClampNeg r else r = -2) ∧ MF f f' a a' := by
  have hVR := hV.1.1
  have hn := hVR.1
  have hw : σ 3 ≤ 1010 := by have := hV.1.2.2.2.2; omega
  have hTr : true = true → TrOK σ (σ 3) := fun _ => hV.2.1
  rw [en149]
  by_cases hv : zBtw t 0 95
  · obtain ⟨q, q1, q2, rfl⟩ := zBtw_of (by omega) (by omega) hv
    obtain ⟨f1, a1, t1, t2, t3⟩ := m_now (sc := sc) (d := d) (f := f) (j := j) hR hV
    have hR1 := t3.r hR
    have ix0 : zIx 21 86 (nI 0) := ix86 (by omega)
    have e0 := hR1 0 (by omega)
    obtain ⟨-, k8, k9⟩ := t2
    have key : ∀ m g, g + m = σ 0 → (∀ i, i < (oL σ (σ 3)).length → (oL σ (σ 3)).getD i 0 < g → ¬ (stN σ (σ 3) true i ≤ q ∧ q < stN σ (σ 3) true i + hvOf σ (σ 3) true ((oL σ (σ 3)).getD i 0))) → ∃ r : Int32, rn sc (cf sc (d + 6)) 149 21 [.ref 85, .int (nI q), .int (nI g)] [] f1 a1 j = some (some (.int r), f1, a1, j) ∧ WhoP σ q r := by
      intro m
      induction m with
      | zero =>
        intro g hg hno
        have c1 : nI (σ 0) ≤ nI g := nI_le (by omega) (by omega)
        refine ⟨-5, ?_, Or.inr ⟨fun i hi => hno i hi (by have := oL_lt hVR hi; omega), rfl⟩⟩
        simp only [q149_21, q149_22, q149_23, q149_26, q149_27, q149_28, q149_77, q149_79, ix0, e0, c1, zCall_some, Option.toList, List.cons_append, List.nil_append, zb_0, zb_1, zem, z01, z11, nI_add, ↓reduceIte, not_true_eq_false, not_false_eq_true, n0T, n1F, n11T, true_or, or_true, false_or]
      | succ m ih =>
        intro g hg hno
        have hgn : g < σ 0 := by omega
        have c1 : ¬ nI (σ 0) ≤ nI g := nI_ge hgn (by omega)
        have i93 : zIx 21 93 (nI g) := ix93 (by omega)
        have i94 : zIx 21 94 (nI g) := ix94 (by omega)
        have r93 := k8 g hgn
        have r94 := (k9 g hgn).1
        have h97 := hv_97 hVR hTr hgn
        unfold begF at r94
        rcases pl_cases hVR (σ 3) g with ⟨i, h1, h2, h3⟩ | ⟨h1, h3⟩
        · have hi : i < 2 ^ 31 := by have := oL_le hVR (σ 3); omega
          have hst := st_le hVR hTr h1
          rw [ix_of hi h3, h3, if_neg (nI_n5 hi)] at r94
          have n5 := nI_n5 (i := stN σ (σ 3) true i) (by omega)
          by_cases w1 : stN σ (σ 3) true i ≤ q
          · have x1 : ¬ nI q < nI (stN σ (σ 3) true i) := nI_nlt w1 (by omega)
            by_cases w2 : q < stN σ (σ 3) true i + hvOf σ (σ 3) true g
            · have x2 : ¬ nI (stN σ (σ 3) true i + hvOf σ (σ 3) true g) ≤ nI q := nI_ge w2 (by omega)
              refine ⟨nI g, ?_, Or.inl ⟨i, h1, w1, by rw [h2]; exact w2, by rw [h2]⟩⟩
              rw [q149_21]
              simp only [q149_0, q149_1, q149_2, q149_3, q149_6, q149_9, q149_12, q149_14, q149_15, q149_16, q149_19, q149_20, q149_22, q149_23, q149_26, q149_27, q149_28, q149_31, q149_32, q149_35, q149_36, q149_37, q149_39, q149_42, q149_43, q149_44, q149_47, q149_48, q149_49, q149_52, q149_53, q149_54, q149_57, q149_58, q149_59, q149_60, q149_63, q149_64, q149_65, q149_66, q149_69, q149_70, q149_71, q149_74, q149_77, q149_79, ix0, e0, c1, i93, i94, r93, r94, n5, x1, x2, zCall_some, Option.toList, List.cons_append, List.nil_append, zb_0, zb_1, zem, z01, z11, nI_add, ↓reduceIte, not_true_eq_false, not_false_eq_true, n0T, n1F, n11T, true_or, or_true, false_or]
            · have x2 : nI (stN σ (σ 3) true i + hvOf σ (σ 3) true g) ≤ nI q := nI_le (by omega) (by omega)
              obtain ⟨r, g1, g2⟩ := ih (g + 1) (by omega) (fun i' hi' hlt => by
                by_cases e : (oL σ (σ 3)).getD i' 0 = g
                · have : i' = i := getD_inj (oS_nd hVR (σ 3) _ (Nat.le_refl _)) hi' h1 (e.trans h2.symm)
                  subst this
                  rw [e]
                  exact fun z => w2 z.2
                · exact hno i' hi' (by omega))
              refine ⟨r, ?_, g2⟩
              rw [← g1, q149_21]
              simp only [q149_0, q149_1, q149_2, q149_3, q149_6, q149_9, q149_12, q149_14, q149_15, q149_16, q149_19, q149_20, q149_22, q149_23, q149_26, q149_27, q149_28, q149_31, q149_32, q149_35, q149_36, q149_37, q149_39, q149_42, q149_43, q149_44, q149_47, q149_48, q149_49, q149_52, q149_53, q149_54, q149_57, q149_58, q149_59, q149_60, q149_63, q149_64, q149_65, q149_66, q149_69, q149_70, q149_71, q149_74, q149_77, q149_79, ix0, e0, c1, i93, i94, r93, r94, n5, x1, x2, zCall_some, Option.toList, List.cons_append, List.nil_append, zb_0, zb_1, zem, z01, z11, nI_add, ↓reduceIte, not_true_eq_false, not_false_eq_true, n0T, n1F, n11T, true_or, or_true, false_or]
          · have x1 : nI q < nI (stN σ (σ 3) true i) := nI_lt (by omega) (by omega)
            obtain ⟨r, g1, g2⟩ := ih (g + 1) (by omega) (fun i' hi' hlt => by
              by_cases e : (oL σ (σ 3)).getD i' 0 = g
              · have : i' = i := getD_inj (oS_nd hVR (σ 3) _ (Nat.le_refl _)) hi' h1 (e.trans h2.symm)
                subst this
                exact fun z => w1 z.1
              · exact hno i' hi' (by omega))
            refine ⟨r, ?_, g2⟩
            rw [← g1, q149_21]
            simp only [q149_0, q149_1, q149_2, q149_3, q149_6, q149_9, q149_12, q149_14, q149_15, q149_16, q149_19, q149_20, q149_22, q149_23, q149_26, q149_27, q149_28, q149_31, q149_32, q149_35, q149_36, q149_37, q149_39, q149_42, q149_43, q149_44, q149_47, q149_48, q149_49, q149_52, q149_53, q149_54, q149_57, q149_58, q149_59, q149_60, q149_63, q149_64, q149_65, q149_66, q149_69, q149_70, q149_71, q149_74, q149_77, q149_79, ix0, e0, c1, i94, r94, n5, x1, zCall_some, Option.toList, List.cons_append, List.nil_append, zb_0, zb_1, zem, z01, z11, nI_add, ↓reduceIte, not_true_eq_false, not_false_eq_true, n0T, n1F, n11T, true_or, or_true, false_or]
        · rw [h3, if_pos rfl] at r94
          obtain ⟨r, g1, g2⟩ := ih (g + 1) (by omega) (fun i' hi' hlt => by
            by_cases e : (oL σ (σ 3)).getD i' 0 = g
            · exact absurd (by rw [← e]; exact getD_mem hi') h1
            · exact hno i' hi' (by omega))
          refine ⟨r, ?_, g2⟩
          rw [← g1, q149_21]
          simp only [q149_0, q149_1, q149_2, q149_3, q149_6, q149_9, q149_12, q149_14, q149_15, q149_16, q149_19, q149_20, q149_22, q149_23, q149_26, q149_27, q149_28, q149_31, q149_32, q149_35, q149_36, q149_37, q149_39, q149_42, q149_43, q149_44, q149_47, q149_48, q149_49, q149_52, q149_53, q149_54, q149_57, q149_58, q149_59, q149_60, q149_63, q149_64, q149_65, q149_66, q149_69, q149_70, q149_71, q149_74, q149_77, q149_79, ix0, e0, c1, i94, r94, zCall_some, Option.toList, List.cons_append, List.nil_append, zb_0, zb_1, zem, z01, z11, nI_add, ↓reduceIte, not_true_eq_false, not_false_eq_true, n0T, n1F, n11T, true_or, or_true, false_or]
    obtain ⟨r, g1, g2⟩ := key (σ 0) 0 (by omega) (fun i _ hlt => absurd hlt (Nat.not_lt_zero _))
    refine ⟨r, f1, a1, ?_, by rw [if_pos hv, nI_clamp (n := q) (by omega)]; exact g2, t3⟩
    simp only [q149_0, q149_1, q149_2, q149_3, q149_6, q149_9, q149_12, q149_14, q149_15, q149_16, q149_19, q149_20, q149_22, q149_23, q149_26, q149_27, q149_28, q149_31, q149_32, q149_35, q149_36, q149_37, q149_39, q149_42, q149_43, q149_44, q149_47, q149_48, q149_49, q149_52, q149_53, q149_54, q149_57, q149_58, q149_59, q149_60, q149_63, q149_64, q149_65, q149_66, q149_69, q149_70, q149_71, q149_74, q149_77, q149_79, in095, eq_true hv, t1, zCall_some, Option.toList, List.cons_append, List.nil_append, zb_0, zb_1, zem, z01, z11, nI_add, ↓reduceIte, not_true_eq_false, not_false_eq_true, n0T, n1F, n11T, true_or, or_true, false_or]
    exact g1
  · refine ⟨-2, f, a, ?_, by rw [if_neg hv], ⟨fun _ _ => rfl, fun _ _ _ _ => rfl, fun _ _ => rfl⟩⟩
    simp only [q149_0, q149_1, q149_2, q149_3, q149_6, q149_9, q149_12, q149_14, q149_15, q149_16, q149_19, q149_20, q149_22, q149_23, q149_26, q149_27, q149_28, q149_31, q149_32, q149_35, q149_36, q149_37, q149_39, q149_42, q149_43, q149_44, q149_47, q149_48, q149_49, q149_52, q149_53, q149_54, q149_57, q149_58, q149_59, q149_60, q149_63, q149_64, q149_65, q149_66, q149_69, q149_70, q149_71, q149_74, q149_77, q149_79, in095, eq_false hv, zCall_some, Option.toList, List.cons_append, List.nil_append, zb_0, zb_1, zem, z01, z11, nI_add, ↓reduceIte, not_true_eq_false, not_false_eq_true, n0T, n1F, n11T, true_or, or_true, false_or]
theorem y_shared {sc : Int32 × (Int32 → Int32)} {f : zF} {a : zA} {j : zJ} {d : Nat} {σ : Nat → Nat} {n v : Int32} (hR : MR σ a) (hV : VS σ) : ∃ a' : zA, cf sc (d + 3) 150 [.ref 85, .int n, .int v] f a j = some (some (.int (sShared σ n v)), f, a', j) ∧ ∀ k, k ≠ 96 → k ≠ 97 → a' k = a k := by
  have hVR := hV.1.1
  have hn := hVR.1
  have hF := m_isField (sc := sc) (d := d) (f := f) (j := j) (v := v) hR hn
  rw [en150]
  unfold sShared
  by_cases hv : zHas v (σ 0)
  · rw [if_pos hv]
    by_cases hb : zBtw n 0 999
    · rw [if_pos hb]
      obtain ⟨g, hg, rfl⟩ := zHas_of (by omega) hv
      obtain ⟨q, q1, q2, rfl⟩ := zBtw_of (by omega) (by omega) hb
      rw [nI_clamp (n := g) (by omega), nI_clamp (n := q) (by omega)]
      have hAF := m_allFields (sc := sc) (d := d + 1) (f := f) (j := j) hR
      obtain ⟨a1, s1, s2, s3⟩ := m_shares (sc := sc) (d := d + 1) (f := f) (j := j) (w := q) (S := alB σ) (x := (nI 1 <<< (nI (σ 0) &&& 31)) - nI 1) hR hVR (by omega) (fun g hg => by rw [bt_all _ hn g (by omega)]; rfl)
      have i96 : zIx 21 96 (nI g) := ix96 (by omega)
      refine ⟨a1, ?_, s3⟩
      simp only [q150_0, q150_1, q150_2, q150_5, q150_8, q150_9, q150_10, q150_11, q150_12, q150_13, q150_16, q150_19, q150_22, q150_24, q150_25, q150_26, q150_27, q150_28, q150_31, q150_34, q150_35, q150_38, q150_39, q150_40, hF, in0999, eq_true hv, eq_true hb, hAF, s1, i96, s2 g hg, zCall_some, Option.toList, List.cons_append, List.nil_append, zb_0, zb_1, zem, z01, z11, nI_add, ↓reduceIte, not_true_eq_false, not_false_eq_true, n0T, n1F, n11T, true_or, or_true, false_or]
    · rw [if_neg hb]
      refine ⟨a, ?_, fun _ _ _ => rfl⟩
      simp only [q150_0, q150_1, q150_2, q150_5, q150_8, q150_9, q150_10, q150_11, q150_12, q150_13, q150_16, q150_19, q150_22, q150_24, q150_25, q150_26, q150_27, q150_28, q150_31, q150_34, q150_35, q150_38, q150_39, q150_40, hF, in0999, eq_true hv, eq_false hb, zCall_some, Option.toList, List.cons_append, List.nil_append, zb_0, zb_1, zem, z01, z11, nI_add, ↓reduceIte, not_true_eq_false, not_false_eq_true, n0T, n1F, n11T, true_or, or_true, false_or]
  · rw [if_neg hv]
    refine ⟨a, ?_, fun _ _ _ => rfl⟩
    simp only [q150_0, q150_1, q150_2, q150_5, q150_8, q150_9, q150_10, q150_11, q150_12, q150_13, q150_16, q150_19, q150_22, q150_24, q150_25, q150_26, q150_27, q150_28, q150_31, q150_34, q150_35, q150_38, q150_39, q150_40, hF, eq_false hv, zCall_some, Option.toList, List.cons_append, List.nil_append, zb_0, zb_1, zem, z01, z11, nI_add, ↓reduceIte, not_true_eq_false, not_false_eq_true, n0T, n1F, n11T, true_or, or_true, false_or]
theorem VS.hr {σ : Nat → Nat} (hV : VS σ) {h : Nat} (h97 : h ≤ 97) : VR (zup σ 1 h) := hV.1.1.up (fun i q _ _ => zup_ne q) (by rw [zup_eq]; exact h97)
theorem MR.back {σ : Nat → Nat} {a : zA} {p x : Nat} (h : MR (zup σ p x) a) (hp : p < 140) : MR σ (zuA a 86 (nI p) (nI (σ p))) := (h.set (x := σ p) hp).ext (fun i _ => by
  by_cases e : i = p
  · rw [e, zup_eq]
  · rw [zup_ne e, zup_ne e])
theorem m_less {sc : Int32 × (Int32 → Int32)} {f : zF} {a : zA} {j : zJ} {d : Nat} {σ : Nat → Nat} (hR : MR σ a) (hV : VS σ) : ∃ (f' : zF) (a' : zA), cf sc (d + 6) 151 [.ref 85] f a j = some (some (.int (lsB σ)), f', a', j) ∧ MR σ a' ∧ MFW f f' a a' := by
  have hVR := hV.1.1
  have hn := hVR.1
  have hw : σ 3 ≤ 1010 := by have := hV.1.2.2.2.2; omega
  have hTr : true = true → TrOK σ (σ 3) := fun _ => hV.2.1
  have h96 := hV.1.2.2.1
  have hr := hV.1.2.2.2.1
  have ix0 : zIx 21 86 (nI 0) := ix86 (by omega)
  have ix1 : zIx 21 86 (nI 1) := ix86 (by omega)
  have ix3 : zIx 21 86 (nI 3) := ix86 (by omega)
  obtain ⟨f1, a1, t1, t2, t3⟩ := m_tellsF (sc := sc) (d := d) (f := f) (j := j) (w := σ 3) hR hVR hw hr
  have hR1 := t3.r hR
  have e3 := hR 3 (by omega)
  obtain ⟨-, k8, -⟩ := t2
  have key := zLoopP (n := σ 0) (g := fun s : (Nat × zA) => rn sc (cf sc (d + 5)) 151 13 [.ref 85, .int (nI s.1), .null] [] f1 s.2 j) (P := fun i s => s.1 = i ∧ (∀ g, g < i → s.2 103 (nI g) = nI (hvOf σ (σ 3) false g)) ∧ ∀ k, k ≠ 103 → s.2 k = a1 k) (by
    intro i s hi hP
    obtain ⟨i', a2⟩ := s
    obtain ⟨rfl, g1, g2⟩ := hP
    dsimp only at g1 g2 hi
    have e0 := (hR1.of (g2 86 (by omega))) 0 (by omega)
    have c1 : ¬ nI (σ 0) ≤ nI i' := nI_ge hi (by omega)
    have i93 : zIx 21 93 (nI i') := ix93 (by omega)
    have i103 : zIx 21 103 (nI i') := ix103 (by omega)
    have r93 : a2 93 (nI i') = nI (hvOf σ (σ 3) false i') := by rw [g2 93 (by omega)]; exact k8 i' hi
    refine ⟨(i' + 1, zuA a2 103 (nI i') (nI (hvOf σ (σ 3) false i'))), ⟨rfl, fun g hg => ?_, fun k hk => (zuA_nk hk).trans (g2 k hk)⟩, ?_⟩
    · dsimp only
      by_cases e : g = i'
      · rw [e]; exact zuA_eq
      · rw [zuA_ni (nI_ne (by omega) (by omega) e)]; exact g1 g (by omega)
    · dsimp only
      rw [q151_13]
      simp only [q151_14, q151_15, q151_18, q151_19, q151_20, q151_23, q151_24, q151_27, q151_28, q151_29, q151_32, q151_33, q151_34, q151_35, q151_38, ix0, e0, c1, i93, i103, r93, zCall_some, Option.toList, List.cons_append, List.nil_append, zb_0, zb_1, zem, z01, z11, nI_add, ↓reduceIte, not_true_eq_false, not_false_eq_true, n0T, n1F, n11T, true_or, or_true, false_or]) (0, a1) ⟨rfl, fun g hg => by omega, fun _ _ => rfl⟩
  obtain ⟨⟨i, a2⟩, ⟨hi, g1, g2⟩, e⟩ := key
  dsimp only at g1 g2 hi e
  rw [hi] at e
  have hR2 : MR σ a2 := hR1.of (g2 86 (by omega))
  have e0 := hR2 0 (by omega)
  have e1 := hR2 1 (by omega)
  have hR3 : MR (zup σ 1 (σ 1 + 1)) (zuA a2 86 (nI 1) (nI (σ 1 + 1))) := hR2.set (by omega)
  have hVu : VR (zup σ 1 (σ 1 + 1)) := hV.hr (by omega)
  have z0 : zup σ 1 (σ 1 + 1) 0 = σ 0 := zup_ne (by omega)
  have e33 := hR3 3 (by omega)
  rw [zup_ne (by omega)] at e33
  obtain ⟨f4, a4, u1, u2, u3⟩ := m_tellsF (sc := sc) (d := d) (f := f1) (j := j) (w := σ 3) hR3 hVu hw (by rw [zup_ne (by omega)]; exact hr)
  have hR4 := u3.r hR3
  have e41 := hR4 1 (by omega)
  rw [zup_eq] at e41
  have es : nI (σ 1 + 1) - nI 1 = nI (σ 1) := pk_sub (by omega)
  have hR5 : MR σ (zuA a4 86 (nI 1) (nI (σ 1))) := hR4.back (by omega)
  obtain ⟨-, m8, -⟩ := u2
  have e50 := hR5 0 (by omega)
  have key2 := zLoop (n := σ 0) (g := fun i => rn sc (cf sc (d + 5)) 151 76 [.ref 85, .int (btS (fun g => decide (hvOf (zup σ 1 (σ 1 + 1)) (σ 3) false g < hvOf σ (σ 3) false g)) i), .int (nI i)] [] f4 (zuA a4 86 (nI 1) (nI (σ 1))) j) (by
    intro i hi
    have c1 : ¬ nI (σ 0) ≤ nI i := nI_ge hi (by omega)
    have i93 : zIx 21 93 (nI i) := ix93 (by omega)
    have i103 : zIx 21 103 (nI i) := ix103 (by omega)
    have r93 : zuA a4 86 (nI 1) (nI (σ 1)) 93 (nI i) = nI (hvOf (zup σ 1 (σ 1 + 1)) (σ 3) false i) := by rw [zuA_nk (by omega)]; exact m8 i (by rw [z0]; exact hi)
    have r103 : zuA a4 86 (nI 1) (nI (σ 1)) 103 (nI i) = nI (hvOf σ (σ 3) false i) := by rw [zuA_nk (by omega), u3.2.2 103 (by omega), zuA_nk (by omega)]; exact g1 i hi
    have b1 := hv_97 hVu (w := σ 3) (tr := false) (fun q => by cases q) (g := i) (by rw [z0]; exact hi)
    have b2 := hv_97 hVR (w := σ 3) (tr := false) (fun q => by cases q) hi
    rw [q151_76, btS_s]
    by_cases h : hvOf (zup σ 1 (σ 1 + 1)) (σ 3) false i < hvOf σ (σ 3) false i
    · have q1 : ¬ nI (hvOf σ (σ 3) false i) ≤ nI (hvOf (zup σ 1 (σ 1 + 1)) (σ 3) false i) := nI_ge h (by omega)
      rw [if_pos (decide_eq_true h)]
      simp only [q151_0, q151_1, q151_2, q151_5, q151_6, q151_7, q151_8, q151_11, q151_12, q151_14, q151_15, q151_18, q151_19, q151_20, q151_23, q151_24, q151_27, q151_28, q151_29, q151_32, q151_33, q151_34, q151_35, q151_38, q151_41, q151_42, q151_45, q151_46, q151_47, q151_48, q151_49, q151_50, q151_51, q151_52, q151_53, q151_56, q151_57, q151_58, q151_59, q151_62, q151_63, q151_66, q151_67, q151_68, q151_69, q151_70, q151_71, q151_72, q151_73, q151_74, q151_75, q151_77, q151_78, q151_81, q151_82, q151_83, q151_86, q151_87, q151_90, q151_91, q151_92, q151_93, q151_96, q151_97, q151_98, q151_101, q151_102, q151_103, q151_104, q151_105, q151_106, q151_107, q151_110, q151_113, q151_114, ix0, e50, c1, i93, i103, r93, r103, q1, zCall_some, Option.toList, List.cons_append, List.nil_append, zb_0, zb_1, zem, z01, z11, nI_add, ↓reduceIte, not_true_eq_false, not_false_eq_true, n0T, n1F, n11T, true_or, or_true, false_or]
    · have q1 : nI (hvOf σ (σ 3) false i) ≤ nI (hvOf (zup σ 1 (σ 1 + 1)) (σ 3) false i) := nI_le (by omega) (by omega)
      rw [if_neg (fun q => h (of_decide_eq_true q)), or_z]
      simp only [q151_0, q151_1, q151_2, q151_5, q151_6, q151_7, q151_8, q151_11, q151_12, q151_14, q151_15, q151_18, q151_19, q151_20, q151_23, q151_24, q151_27, q151_28, q151_29, q151_32, q151_33, q151_34, q151_35, q151_38, q151_41, q151_42, q151_45, q151_46, q151_47, q151_48, q151_49, q151_50, q151_51, q151_52, q151_53, q151_56, q151_57, q151_58, q151_59, q151_62, q151_63, q151_66, q151_67, q151_68, q151_69, q151_70, q151_71, q151_72, q151_73, q151_74, q151_75, q151_77, q151_78, q151_81, q151_82, q151_83, q151_86, q151_87, q151_90, q151_91, q151_92, q151_93, q151_96, q151_97, q151_98, q151_101, q151_102, q151_103, q151_104, q151_105, q151_106, q151_107, q151_110, q151_113, q151_114, ix0, e50, c1, i93, i103, r93, r103, q1, zCall_some, Option.toList, List.cons_append, List.nil_append, zb_0, zb_1, zem, z01, z11, nI_add, ↓reduceIte, not_true_eq_false, not_false_eq_true, n0T, n1F, n11T, true_or, or_true, false_or])
  refine ⟨f4, zuA a4 86 (nI 1) (nI (σ 1)), ?_, hR5, ⟨fun k hk => by rw [u3.1 k hk, t3.1 k hk], fun i i1 i2 i3 => by rw [u3.2.1 i i1 i2 i3, t3.2.1 i i1 i2 i3], fun k hk => by rw [zuA_nk (by omega), u3.2.2 k (by omega), zuA_nk (by omega), g2 k (by omega), t3.2.2 k (by omega)]⟩⟩
  have c1 : nI (σ 0) ≤ nI (σ 0) := nI_le (Nat.le_refl _) (by omega)
  rw [en151]
  simp only [q151_0, q151_1, q151_2, q151_5, q151_6, q151_7, q151_8, q151_11, q151_12, ix3, e3, t1, zCall_some, Option.toList, List.cons_append, List.nil_append, zb_0, zb_1, zem, z01, z11, nI_add, ↓reduceIte, not_true_eq_false, not_false_eq_true, n0T, n1F, n11T, true_or, or_true, false_or]
  refine Eq.trans (show _ = _ from e) ?_
  simp only [q151_0, q151_1, q151_2, q151_5, q151_6, q151_7, q151_8, q151_11, q151_12, q151_13, q151_14, q151_15, q151_18, q151_19, q151_20, q151_23, q151_24, q151_27, q151_28, q151_29, q151_32, q151_33, q151_34, q151_35, q151_38, q151_41, q151_42, q151_45, q151_46, q151_47, q151_48, q151_49, q151_50, q151_51, q151_52, q151_53, q151_56, q151_57, q151_58, q151_59, q151_62, q151_63, q151_66, q151_67, q151_68, q151_69, q151_70, q151_71, q151_72, q151_73, q151_74, q151_75, q151_77, q151_78, q151_81, q151_82, q151_83, q151_86, q151_87, q151_90, q151_91, q151_92, q151_93, q151_96, q151_97, q151_98, q151_101, q151_102, q151_103, q151_104, q151_105, q151_106, q151_107, q151_110, q151_113, q151_114, ix0, ix1, ix3, e0, e1, e33, e41, es, c1, u1, zCall_some, Option.toList, List.cons_append, List.nil_append, zb_0, zb_1, zem, z01, z11, nI_add, ↓reduceIte, not_true_eq_false, not_false_eq_true, n0T, n1F, n11T, true_or, or_true, false_or]
  refine Eq.trans (show _ = _ from key2) ?_
  simp only [q151_76, q151_77, q151_78, q151_81, q151_82, q151_83, q151_113, q151_114, ix0, e50, c1, zCall_some, Option.toList, List.cons_append, List.nil_append, zb_0, zb_1, zem, z01, z11, nI_add, ↓reduceIte, not_true_eq_false, not_false_eq_true, n0T, n1F, n11T, true_or, or_true, false_or]
  rfl
theorem y_told {sc : Int32 × (Int32 → Int32)} {f : zF} {a : zA} {j : zJ} {d : Nat} {σ : Nat → Nat} {what : Int32} (hR : MR σ a) (hV : VS σ) : ∃ (f' : zF) (a' : zA), cf sc (d + 7) 152 [.ref 85, .int what] f a j = some (some (.int (sTold σ what)), f', a', j) ∧ MR σ a' ∧ MFW f f' a a' := by
  have hVR := hV.1.1
  have hn := hVR.1
  have hw : σ 3 ≤ 1010 := by have := hV.1.2.2.2.2; omega
  have hTr : true = true → TrOK σ (σ 3) := fun _ => hV.2.1
  obtain ⟨f1, a1, t1, t2, t3⟩ := m_now (sc := sc) (d := d) (f := f) (j := j) hR hV
  have hR1 := t3.r hR
  obtain ⟨f2, a2, b1, b2, b3⟩ := m_less (sc := sc) (d := d) (f := f1) (j := j) hR1 hV
  obtain ⟨⟨k1, k2, k3, k4, k5, k6, k7⟩, k8, k9⟩ := t2
  have i0 : zIx 21 86 (nI 0) := ix86 (by omega)
  have i1 : zIx 21 86 (nI 1) := ix86 (by omega)
  have i2 : zIx 21 86 (nI 2) := ix86 (by omega)
  have i3 : zIx 21 86 (nI 3) := ix86 (by omega)
  have i4 : zIx 21 86 (nI 4) := ix86 (by omega)
  have e0 := hR1 0 (by omega)
  have e1 := hR1 1 (by omega)
  have e2 := hR1 2 (by omega)
  have e3 := hR1 3 (by omega)
  have e4 := hR1 4 (by omega)
  rw [en152]
  unfold sTold
  by_cases z0 : what = nI 0
  · subst z0
    refine ⟨f1, a1, ?_, hR1, t3.w⟩
    simp only [q152_0, q152_1, q152_4, q152_5, q152_68, q152_69, q152_72, q152_73, q152_74, q152_75, q152_76, q152_79, q152_80, q152_81, q152_82, q152_83, q152_86, q152_87, q152_88, q152_89, q152_90, q152_93, q152_94, q152_95, q152_96, q152_97, q152_100, q152_101, q152_102, q152_105, q152_106, q152_107, q152_110, q152_111, q152_112, q152_115, q152_116, q152_117, q152_120, q152_121, q152_122, q152_125, q152_126, q152_127, q152_128, q152_129, q152_132, q152_133, q152_134, q152_137, q152_138, q152_139, t1, ne0_1, ne0_2, ne0_3, ne0_4, ne0_5, ne0_6, ne0_7, ne0_8, ne0_9, ne0_10, ne0_11, ne0_12, ne1_0, ne1_2, ne1_3, ne1_4, ne1_5, ne1_6, ne1_7, ne1_8, ne1_9, ne1_10, ne1_11, ne1_12, ne2_0, ne2_1, ne2_3, ne2_4, ne2_5, ne2_6, ne2_7, ne2_8, ne2_9, ne2_10, ne2_11, ne2_12, ne3_0, ne3_1, ne3_2, ne3_4, ne3_5, ne3_6, ne3_7, ne3_8, ne3_9, ne3_10, ne3_11, ne3_12, ne4_0, ne4_1, ne4_2, ne4_3, ne4_5, ne4_6, ne4_7, ne4_8, ne4_9, ne4_10, ne4_11, ne4_12, ne5_0, ne5_1, ne5_2, ne5_3, ne5_4, ne5_6, ne5_7, ne5_8, ne5_9, ne5_10, ne5_11, ne5_12, ne6_0, ne6_1, ne6_2, ne6_3, ne6_4, ne6_5, ne6_7, ne6_8, ne6_9, ne6_10, ne6_11, ne6_12, ne7_0, ne7_1, ne7_2, ne7_3, ne7_4, ne7_5, ne7_6, ne7_8, ne7_9, ne7_10, ne7_11, ne7_12, ne8_0, ne8_1, ne8_2, ne8_3, ne8_4, ne8_5, ne8_6, ne8_7, ne8_9, ne8_10, ne8_11, ne8_12, ne9_0, ne9_1, ne9_2, ne9_3, ne9_4, ne9_5, ne9_6, ne9_7, ne9_8, ne9_10, ne9_11, ne9_12, ne10_0, ne10_1, ne10_2, ne10_3, ne10_4, ne10_5, ne10_6, ne10_7, ne10_8, ne10_9, ne10_11, ne10_12, ne11_0, ne11_1, ne11_2, ne11_3, ne11_4, ne11_5, ne11_6, ne11_7, ne11_8, ne11_9, ne11_10, ne11_12, ne12_0, ne12_1, ne12_2, ne12_3, ne12_4, ne12_5, ne12_6, ne12_7, ne12_8, ne12_9, ne12_10, ne12_11, zCall_some, Option.toList, List.cons_append, List.nil_append, zb_0, zb_1, zem, z01, z11, nI_add, ↓reduceIte, not_true_eq_false, not_false_eq_true, n0T, n1F, n11T, true_or, or_true, false_or, i0, e0]
  · skip
    by_cases z1 : what = nI 1
    · subst z1
      refine ⟨f1, a1, ?_, hR1, t3.w⟩
      simp only [q152_0, q152_1, q152_4, q152_5, q152_68, q152_69, q152_72, q152_73, q152_74, q152_75, q152_76, q152_79, q152_80, q152_81, q152_82, q152_83, q152_86, q152_87, q152_88, q152_89, q152_90, q152_93, q152_94, q152_95, q152_96, q152_97, q152_100, q152_101, q152_102, q152_105, q152_106, q152_107, q152_110, q152_111, q152_112, q152_115, q152_116, q152_117, q152_120, q152_121, q152_122, q152_125, q152_126, q152_127, q152_128, q152_129, q152_132, q152_133, q152_134, q152_137, q152_138, q152_139, t1, ne0_1, ne0_2, ne0_3, ne0_4, ne0_5, ne0_6, ne0_7, ne0_8, ne0_9, ne0_10, ne0_11, ne0_12, ne1_0, ne1_2, ne1_3, ne1_4, ne1_5, ne1_6, ne1_7, ne1_8, ne1_9, ne1_10, ne1_11, ne1_12, ne2_0, ne2_1, ne2_3, ne2_4, ne2_5, ne2_6, ne2_7, ne2_8, ne2_9, ne2_10, ne2_11, ne2_12, ne3_0, ne3_1, ne3_2, ne3_4, ne3_5, ne3_6, ne3_7, ne3_8, ne3_9, ne3_10, ne3_11, ne3_12, ne4_0, ne4_1, ne4_2, ne4_3, ne4_5, ne4_6, ne4_7, ne4_8, ne4_9, ne4_10, ne4_11, ne4_12, ne5_0, ne5_1, ne5_2, ne5_3, ne5_4, ne5_6, ne5_7, ne5_8, ne5_9, ne5_10, ne5_11, ne5_12, ne6_0, ne6_1, ne6_2, ne6_3, ne6_4, ne6_5, ne6_7, ne6_8, ne6_9, ne6_10, ne6_11, ne6_12, ne7_0, ne7_1, ne7_2, ne7_3, ne7_4, ne7_5, ne7_6, ne7_8, ne7_9, ne7_10, ne7_11, ne7_12, ne8_0, ne8_1, ne8_2, ne8_3, ne8_4, ne8_5, ne8_6, ne8_7, ne8_9, ne8_10, ne8_11, ne8_12, ne9_0, ne9_1, ne9_2, ne9_3, ne9_4, ne9_5, ne9_6, ne9_7, ne9_8, ne9_10, ne9_11, ne9_12, ne10_0, ne10_1, ne10_2, ne10_3, ne10_4, ne10_5, ne10_6, ne10_7, ne10_8, ne10_9, ne10_11, ne10_12, ne11_0, ne11_1, ne11_2, ne11_3, ne11_4, ne11_5, ne11_6, ne11_7, ne11_8, ne11_9, ne11_10, ne11_12, ne12_0, ne12_1, ne12_2, ne12_3, ne12_4, ne12_5, ne12_6, ne12_7, ne12_8, ne12_9, ne12_10, ne12_11, zCall_some, Option.toList, List.cons_append, List.nil_append, zb_0, zb_1, zem, z01, z11, nI_add, ↓reduceIte, not_true_eq_false, not_false_eq_true, n0T, n1F, n11T, true_or, or_true, false_or, i1, e1]
    · skip
      by_cases z2 : what = nI 2
      · subst z2
        refine ⟨f1, a1, ?_, hR1, t3.w⟩
        simp only [q152_0, q152_1, q152_4, q152_5, q152_68, q152_69, q152_72, q152_73, q152_74, q152_75, q152_76, q152_79, q152_80, q152_81, q152_82, q152_83, q152_86, q152_87, q152_88, q152_89, q152_90, q152_93, q152_94, q152_95, q152_96, q152_97, q152_100, q152_101, q152_102, q152_105, q152_106, q152_107, q152_110, q152_111, q152_112, q152_115, q152_116, q152_117, q152_120, q152_121, q152_122, q152_125, q152_126, q152_127, q152_128, q152_129, q152_132, q152_133, q152_134, q152_137, q152_138, q152_139, t1, ne0_1, ne0_2, ne0_3, ne0_4, ne0_5, ne0_6, ne0_7, ne0_8, ne0_9, ne0_10, ne0_11, ne0_12, ne1_0, ne1_2, ne1_3, ne1_4, ne1_5, ne1_6, ne1_7, ne1_8, ne1_9, ne1_10, ne1_11, ne1_12, ne2_0, ne2_1, ne2_3, ne2_4, ne2_5, ne2_6, ne2_7, ne2_8, ne2_9, ne2_10, ne2_11, ne2_12, ne3_0, ne3_1, ne3_2, ne3_4, ne3_5, ne3_6, ne3_7, ne3_8, ne3_9, ne3_10, ne3_11, ne3_12, ne4_0, ne4_1, ne4_2, ne4_3, ne4_5, ne4_6, ne4_7, ne4_8, ne4_9, ne4_10, ne4_11, ne4_12, ne5_0, ne5_1, ne5_2, ne5_3, ne5_4, ne5_6, ne5_7, ne5_8, ne5_9, ne5_10, ne5_11, ne5_12, ne6_0, ne6_1, ne6_2, ne6_3, ne6_4, ne6_5, ne6_7, ne6_8, ne6_9, ne6_10, ne6_11, ne6_12, ne7_0, ne7_1, ne7_2, ne7_3, ne7_4, ne7_5, ne7_6, ne7_8, ne7_9, ne7_10, ne7_11, ne7_12, ne8_0, ne8_1, ne8_2, ne8_3, ne8_4, ne8_5, ne8_6, ne8_7, ne8_9, ne8_10, ne8_11, ne8_12, ne9_0, ne9_1, ne9_2, ne9_3, ne9_4, ne9_5, ne9_6, ne9_7, ne9_8, ne9_10, ne9_11, ne9_12, ne10_0, ne10_1, ne10_2, ne10_3, ne10_4, ne10_5, ne10_6, ne10_7, ne10_8, ne10_9, ne10_11, ne10_12, ne11_0, ne11_1, ne11_2, ne11_3, ne11_4, ne11_5, ne11_6, ne11_7, ne11_8, ne11_9, ne11_10, ne11_12, ne12_0, ne12_1, ne12_2, ne12_3, ne12_4, ne12_5, ne12_6, ne12_7, ne12_8, ne12_9, ne12_10, ne12_11, zCall_some, Option.toList, List.cons_append, List.nil_append, zb_0, zb_1, zem, z01, z11, nI_add, ↓reduceIte, not_true_eq_false, not_false_eq_true, n0T, n1F, n11T, true_or, or_true, false_or, i2, e2]
      · skip
        by_cases z3 : what = nI 3
        · subst z3
          refine ⟨f1, a1, ?_, hR1, t3.w⟩
          simp only [q152_0, q152_1, q152_4, q152_5, q152_68, q152_69, q152_72, q152_73, q152_74, q152_75, q152_76, q152_79, q152_80, q152_81, q152_82, q152_83, q152_86, q152_87, q152_88, q152_89, q152_90, q152_93, q152_94, q152_95, q152_96, q152_97, q152_100, q152_101, q152_102, q152_105, q152_106, q152_107, q152_110, q152_111, q152_112, q152_115, q152_116, q152_117, q152_120, q152_121, q152_122, q152_125, q152_126, q152_127, q152_128, q152_129, q152_132, q152_133, q152_134, q152_137, q152_138, q152_139, t1, ne0_1, ne0_2, ne0_3, ne0_4, ne0_5, ne0_6, ne0_7, ne0_8, ne0_9, ne0_10, ne0_11, ne0_12, ne1_0, ne1_2, ne1_3, ne1_4, ne1_5, ne1_6, ne1_7, ne1_8, ne1_9, ne1_10, ne1_11, ne1_12, ne2_0, ne2_1, ne2_3, ne2_4, ne2_5, ne2_6, ne2_7, ne2_8, ne2_9, ne2_10, ne2_11, ne2_12, ne3_0, ne3_1, ne3_2, ne3_4, ne3_5, ne3_6, ne3_7, ne3_8, ne3_9, ne3_10, ne3_11, ne3_12, ne4_0, ne4_1, ne4_2, ne4_3, ne4_5, ne4_6, ne4_7, ne4_8, ne4_9, ne4_10, ne4_11, ne4_12, ne5_0, ne5_1, ne5_2, ne5_3, ne5_4, ne5_6, ne5_7, ne5_8, ne5_9, ne5_10, ne5_11, ne5_12, ne6_0, ne6_1, ne6_2, ne6_3, ne6_4, ne6_5, ne6_7, ne6_8, ne6_9, ne6_10, ne6_11, ne6_12, ne7_0, ne7_1, ne7_2, ne7_3, ne7_4, ne7_5, ne7_6, ne7_8, ne7_9, ne7_10, ne7_11, ne7_12, ne8_0, ne8_1, ne8_2, ne8_3, ne8_4, ne8_5, ne8_6, ne8_7, ne8_9, ne8_10, ne8_11, ne8_12, ne9_0, ne9_1, ne9_2, ne9_3, ne9_4, ne9_5, ne9_6, ne9_7, ne9_8, ne9_10, ne9_11, ne9_12, ne10_0, ne10_1, ne10_2, ne10_3, ne10_4, ne10_5, ne10_6, ne10_7, ne10_8, ne10_9, ne10_11, ne10_12, ne11_0, ne11_1, ne11_2, ne11_3, ne11_4, ne11_5, ne11_6, ne11_7, ne11_8, ne11_9, ne11_10, ne11_12, ne12_0, ne12_1, ne12_2, ne12_3, ne12_4, ne12_5, ne12_6, ne12_7, ne12_8, ne12_9, ne12_10, ne12_11, zCall_some, Option.toList, List.cons_append, List.nil_append, zb_0, zb_1, zem, z01, z11, nI_add, ↓reduceIte, not_true_eq_false, not_false_eq_true, n0T, n1F, n11T, true_or, or_true, false_or, i3, e3]
        · skip
          by_cases z4 : what = nI 4
          · subst z4
            refine ⟨f1, a1, ?_, hR1, t3.w⟩
            simp only [q152_0, q152_1, q152_4, q152_5, q152_68, q152_69, q152_72, q152_73, q152_74, q152_75, q152_76, q152_79, q152_80, q152_81, q152_82, q152_83, q152_86, q152_87, q152_88, q152_89, q152_90, q152_93, q152_94, q152_95, q152_96, q152_97, q152_100, q152_101, q152_102, q152_105, q152_106, q152_107, q152_110, q152_111, q152_112, q152_115, q152_116, q152_117, q152_120, q152_121, q152_122, q152_125, q152_126, q152_127, q152_128, q152_129, q152_132, q152_133, q152_134, q152_137, q152_138, q152_139, t1, ne0_1, ne0_2, ne0_3, ne0_4, ne0_5, ne0_6, ne0_7, ne0_8, ne0_9, ne0_10, ne0_11, ne0_12, ne1_0, ne1_2, ne1_3, ne1_4, ne1_5, ne1_6, ne1_7, ne1_8, ne1_9, ne1_10, ne1_11, ne1_12, ne2_0, ne2_1, ne2_3, ne2_4, ne2_5, ne2_6, ne2_7, ne2_8, ne2_9, ne2_10, ne2_11, ne2_12, ne3_0, ne3_1, ne3_2, ne3_4, ne3_5, ne3_6, ne3_7, ne3_8, ne3_9, ne3_10, ne3_11, ne3_12, ne4_0, ne4_1, ne4_2, ne4_3, ne4_5, ne4_6, ne4_7, ne4_8, ne4_9, ne4_10, ne4_11, ne4_12, ne5_0, ne5_1, ne5_2, ne5_3, ne5_4, ne5_6, ne5_7, ne5_8, ne5_9, ne5_10, ne5_11, ne5_12, ne6_0, ne6_1, ne6_2, ne6_3, ne6_4, ne6_5, ne6_7, ne6_8, ne6_9, ne6_10, ne6_11, ne6_12, ne7_0, ne7_1, ne7_2, ne7_3, ne7_4, ne7_5, ne7_6, ne7_8, ne7_9, ne7_10, ne7_11, ne7_12, ne8_0, ne8_1, ne8_2, ne8_3, ne8_4, ne8_5, ne8_6, ne8_7, ne8_9, ne8_10, ne8_11, ne8_12, ne9_0, ne9_1, ne9_2, ne9_3, ne9_4, ne9_5, ne9_6, ne9_7, ne9_8, ne9_10, ne9_11, ne9_12, ne10_0, ne10_1, ne10_2, ne10_3, ne10_4, ne10_5, ne10_6, ne10_7, ne10_8, ne10_9, ne10_11, ne10_12, ne11_0, ne11_1, ne11_2, ne11_3, ne11_4, ne11_5, ne11_6, ne11_7, ne11_8, ne11_9, ne11_10, ne11_12, ne12_0, ne12_1, ne12_2, ne12_3, ne12_4, ne12_5, ne12_6, ne12_7, ne12_8, ne12_9, ne12_10, ne12_11, zCall_some, Option.toList, List.cons_append, List.nil_append, zb_0, zb_1, zem, z01, z11, nI_add, ↓reduceIte, not_true_eq_false, not_false_eq_true, n0T, n1F, n11T, true_or, or_true, false_or, k2]
          · skip
            by_cases z5 : what = nI 5
            · subst z5
              refine ⟨f1, a1, ?_, hR1, t3.w⟩
              simp only [q152_0, q152_1, q152_4, q152_5, q152_68, q152_69, q152_72, q152_73, q152_74, q152_75, q152_76, q152_79, q152_80, q152_81, q152_82, q152_83, q152_86, q152_87, q152_88, q152_89, q152_90, q152_93, q152_94, q152_95, q152_96, q152_97, q152_100, q152_101, q152_102, q152_105, q152_106, q152_107, q152_110, q152_111, q152_112, q152_115, q152_116, q152_117, q152_120, q152_121, q152_122, q152_125, q152_126, q152_127, q152_128, q152_129, q152_132, q152_133, q152_134, q152_137, q152_138, q152_139, t1, ne0_1, ne0_2, ne0_3, ne0_4, ne0_5, ne0_6, ne0_7, ne0_8, ne0_9, ne0_10, ne0_11, ne0_12, ne1_0, ne1_2, ne1_3, ne1_4, ne1_5, ne1_6, ne1_7, ne1_8, ne1_9, ne1_10, ne1_11, ne1_12, ne2_0, ne2_1, ne2_3, ne2_4, ne2_5, ne2_6, ne2_7, ne2_8, ne2_9, ne2_10, ne2_11, ne2_12, ne3_0, ne3_1, ne3_2, ne3_4, ne3_5, ne3_6, ne3_7, ne3_8, ne3_9, ne3_10, ne3_11, ne3_12, ne4_0, ne4_1, ne4_2, ne4_3, ne4_5, ne4_6, ne4_7, ne4_8, ne4_9, ne4_10, ne4_11, ne4_12, ne5_0, ne5_1, ne5_2, ne5_3, ne5_4, ne5_6, ne5_7, ne5_8, ne5_9, ne5_10, ne5_11, ne5_12, ne6_0, ne6_1, ne6_2, ne6_3, ne6_4, ne6_5, ne6_7, ne6_8, ne6_9, ne6_10, ne6_11, ne6_12, ne7_0, ne7_1, ne7_2, ne7_3, ne7_4, ne7_5, ne7_6, ne7_8, ne7_9, ne7_10, ne7_11, ne7_12, ne8_0, ne8_1, ne8_2, ne8_3, ne8_4, ne8_5, ne8_6, ne8_7, ne8_9, ne8_10, ne8_11, ne8_12, ne9_0, ne9_1, ne9_2, ne9_3, ne9_4, ne9_5, ne9_6, ne9_7, ne9_8, ne9_10, ne9_11, ne9_12, ne10_0, ne10_1, ne10_2, ne10_3, ne10_4, ne10_5, ne10_6, ne10_7, ne10_8, ne10_9, ne10_11, ne10_12, ne11_0, ne11_1, ne11_2, ne11_3, ne11_4, ne11_5, ne11_6, ne11_7, ne11_8, ne11_9, ne11_10, ne11_12, ne12_0, ne12_1, ne12_2, ne12_3, ne12_4, ne12_5, ne12_6, ne12_7, ne12_8, ne12_9, ne12_10, ne12_11, zCall_some, Option.toList, List.cons_append, List.nil_append, zb_0, zb_1, zem, z01, z11, nI_add, ↓reduceIte, not_true_eq_false, not_false_eq_true, n0T, n1F, n11T, true_or, or_true, false_or, k3]
            · skip
              by_cases z6 : what = nI 6
              · subst z6
                refine ⟨f1, a1, ?_, hR1, t3.w⟩
                simp only [q152_0, q152_1, q152_4, q152_5, q152_68, q152_69, q152_72, q152_73, q152_74, q152_75, q152_76, q152_79, q152_80, q152_81, q152_82, q152_83, q152_86, q152_87, q152_88, q152_89, q152_90, q152_93, q152_94, q152_95, q152_96, q152_97, q152_100, q152_101, q152_102, q152_105, q152_106, q152_107, q152_110, q152_111, q152_112, q152_115, q152_116, q152_117, q152_120, q152_121, q152_122, q152_125, q152_126, q152_127, q152_128, q152_129, q152_132, q152_133, q152_134, q152_137, q152_138, q152_139, t1, ne0_1, ne0_2, ne0_3, ne0_4, ne0_5, ne0_6, ne0_7, ne0_8, ne0_9, ne0_10, ne0_11, ne0_12, ne1_0, ne1_2, ne1_3, ne1_4, ne1_5, ne1_6, ne1_7, ne1_8, ne1_9, ne1_10, ne1_11, ne1_12, ne2_0, ne2_1, ne2_3, ne2_4, ne2_5, ne2_6, ne2_7, ne2_8, ne2_9, ne2_10, ne2_11, ne2_12, ne3_0, ne3_1, ne3_2, ne3_4, ne3_5, ne3_6, ne3_7, ne3_8, ne3_9, ne3_10, ne3_11, ne3_12, ne4_0, ne4_1, ne4_2, ne4_3, ne4_5, ne4_6, ne4_7, ne4_8, ne4_9, ne4_10, ne4_11, ne4_12, ne5_0, ne5_1, ne5_2, ne5_3, ne5_4, ne5_6, ne5_7, ne5_8, ne5_9, ne5_10, ne5_11, ne5_12, ne6_0, ne6_1, ne6_2, ne6_3, ne6_4, ne6_5, ne6_7, ne6_8, ne6_9, ne6_10, ne6_11, ne6_12, ne7_0, ne7_1, ne7_2, ne7_3, ne7_4, ne7_5, ne7_6, ne7_8, ne7_9, ne7_10, ne7_11, ne7_12, ne8_0, ne8_1, ne8_2, ne8_3, ne8_4, ne8_5, ne8_6, ne8_7, ne8_9, ne8_10, ne8_11, ne8_12, ne9_0, ne9_1, ne9_2, ne9_3, ne9_4, ne9_5, ne9_6, ne9_7, ne9_8, ne9_10, ne9_11, ne9_12, ne10_0, ne10_1, ne10_2, ne10_3, ne10_4, ne10_5, ne10_6, ne10_7, ne10_8, ne10_9, ne10_11, ne10_12, ne11_0, ne11_1, ne11_2, ne11_3, ne11_4, ne11_5, ne11_6, ne11_7, ne11_8, ne11_9, ne11_10, ne11_12, ne12_0, ne12_1, ne12_2, ne12_3, ne12_4, ne12_5, ne12_6, ne12_7, ne12_8, ne12_9, ne12_10, ne12_11, zCall_some, Option.toList, List.cons_append, List.nil_append, zb_0, zb_1, zem, z01, z11, nI_add, ↓reduceIte, not_true_eq_false, not_false_eq_true, n0T, n1F, n11T, true_or, or_true, false_or, m_hasAll hR1 hVR k8]
              · skip
                by_cases z7 : what = nI 7
                · subst z7
                  refine ⟨f1, a1, ?_, hR1, t3.w⟩
                  simp only [q152_0, q152_1, q152_4, q152_5, q152_68, q152_69, q152_72, q152_73, q152_74, q152_75, q152_76, q152_79, q152_80, q152_81, q152_82, q152_83, q152_86, q152_87, q152_88, q152_89, q152_90, q152_93, q152_94, q152_95, q152_96, q152_97, q152_100, q152_101, q152_102, q152_105, q152_106, q152_107, q152_110, q152_111, q152_112, q152_115, q152_116, q152_117, q152_120, q152_121, q152_122, q152_125, q152_126, q152_127, q152_128, q152_129, q152_132, q152_133, q152_134, q152_137, q152_138, q152_139, t1, ne0_1, ne0_2, ne0_3, ne0_4, ne0_5, ne0_6, ne0_7, ne0_8, ne0_9, ne0_10, ne0_11, ne0_12, ne1_0, ne1_2, ne1_3, ne1_4, ne1_5, ne1_6, ne1_7, ne1_8, ne1_9, ne1_10, ne1_11, ne1_12, ne2_0, ne2_1, ne2_3, ne2_4, ne2_5, ne2_6, ne2_7, ne2_8, ne2_9, ne2_10, ne2_11, ne2_12, ne3_0, ne3_1, ne3_2, ne3_4, ne3_5, ne3_6, ne3_7, ne3_8, ne3_9, ne3_10, ne3_11, ne3_12, ne4_0, ne4_1, ne4_2, ne4_3, ne4_5, ne4_6, ne4_7, ne4_8, ne4_9, ne4_10, ne4_11, ne4_12, ne5_0, ne5_1, ne5_2, ne5_3, ne5_4, ne5_6, ne5_7, ne5_8, ne5_9, ne5_10, ne5_11, ne5_12, ne6_0, ne6_1, ne6_2, ne6_3, ne6_4, ne6_5, ne6_7, ne6_8, ne6_9, ne6_10, ne6_11, ne6_12, ne7_0, ne7_1, ne7_2, ne7_3, ne7_4, ne7_5, ne7_6, ne7_8, ne7_9, ne7_10, ne7_11, ne7_12, ne8_0, ne8_1, ne8_2, ne8_3, ne8_4, ne8_5, ne8_6, ne8_7, ne8_9, ne8_10, ne8_11, ne8_12, ne9_0, ne9_1, ne9_2, ne9_3, ne9_4, ne9_5, ne9_6, ne9_7, ne9_8, ne9_10, ne9_11, ne9_12, ne10_0, ne10_1, ne10_2, ne10_3, ne10_4, ne10_5, ne10_6, ne10_7, ne10_8, ne10_9, ne10_11, ne10_12, ne11_0, ne11_1, ne11_2, ne11_3, ne11_4, ne11_5, ne11_6, ne11_7, ne11_8, ne11_9, ne11_10, ne11_12, ne12_0, ne12_1, ne12_2, ne12_3, ne12_4, ne12_5, ne12_6, ne12_7, ne12_8, ne12_9, ne12_10, ne12_11, zCall_some, Option.toList, List.cons_append, List.nil_append, zb_0, zb_1, zem, z01, z11, nI_add, ↓reduceIte, not_true_eq_false, not_false_eq_true, n0T, n1F, n11T, true_or, or_true, false_or, k1]
                · skip
                  by_cases z8 : what = nI 8
                  · subst z8
                    refine ⟨f1, a1, ?_, hR1, t3.w⟩
                    simp only [q152_0, q152_1, q152_4, q152_5, q152_68, q152_69, q152_72, q152_73, q152_74, q152_75, q152_76, q152_79, q152_80, q152_81, q152_82, q152_83, q152_86, q152_87, q152_88, q152_89, q152_90, q152_93, q152_94, q152_95, q152_96, q152_97, q152_100, q152_101, q152_102, q152_105, q152_106, q152_107, q152_110, q152_111, q152_112, q152_115, q152_116, q152_117, q152_120, q152_121, q152_122, q152_125, q152_126, q152_127, q152_128, q152_129, q152_132, q152_133, q152_134, q152_137, q152_138, q152_139, t1, ne0_1, ne0_2, ne0_3, ne0_4, ne0_5, ne0_6, ne0_7, ne0_8, ne0_9, ne0_10, ne0_11, ne0_12, ne1_0, ne1_2, ne1_3, ne1_4, ne1_5, ne1_6, ne1_7, ne1_8, ne1_9, ne1_10, ne1_11, ne1_12, ne2_0, ne2_1, ne2_3, ne2_4, ne2_5, ne2_6, ne2_7, ne2_8, ne2_9, ne2_10, ne2_11, ne2_12, ne3_0, ne3_1, ne3_2, ne3_4, ne3_5, ne3_6, ne3_7, ne3_8, ne3_9, ne3_10, ne3_11, ne3_12, ne4_0, ne4_1, ne4_2, ne4_3, ne4_5, ne4_6, ne4_7, ne4_8, ne4_9, ne4_10, ne4_11, ne4_12, ne5_0, ne5_1, ne5_2, ne5_3, ne5_4, ne5_6, ne5_7, ne5_8, ne5_9, ne5_10, ne5_11, ne5_12, ne6_0, ne6_1, ne6_2, ne6_3, ne6_4, ne6_5, ne6_7, ne6_8, ne6_9, ne6_10, ne6_11, ne6_12, ne7_0, ne7_1, ne7_2, ne7_3, ne7_4, ne7_5, ne7_6, ne7_8, ne7_9, ne7_10, ne7_11, ne7_12, ne8_0, ne8_1, ne8_2, ne8_3, ne8_4, ne8_5, ne8_6, ne8_7, ne8_9, ne8_10, ne8_11, ne8_12, ne9_0, ne9_1, ne9_2, ne9_3, ne9_4, ne9_5, ne9_6, ne9_7, ne9_8, ne9_10, ne9_11, ne9_12, ne10_0, ne10_1, ne10_2, ne10_3, ne10_4, ne10_5, ne10_6, ne10_7, ne10_8, ne10_9, ne10_11, ne10_12, ne11_0, ne11_1, ne11_2, ne11_3, ne11_4, ne11_5, ne11_6, ne11_7, ne11_8, ne11_9, ne11_10, ne11_12, ne12_0, ne12_1, ne12_2, ne12_3, ne12_4, ne12_5, ne12_6, ne12_7, ne12_8, ne12_9, ne12_10, ne12_11, zCall_some, Option.toList, List.cons_append, List.nil_append, zb_0, zb_1, zem, z01, z11, nI_add, ↓reduceIte, not_true_eq_false, not_false_eq_true, n0T, n1F, n11T, true_or, or_true, false_or, m_waterAll hR1 hVR k8]
                  · skip
                    by_cases z9 : what = nI 9
                    · subst z9
                      refine ⟨f1, a1, ?_, hR1, t3.w⟩
                      simp only [q152_0, q152_1, q152_4, q152_5, q152_68, q152_69, q152_72, q152_73, q152_74, q152_75, q152_76, q152_79, q152_80, q152_81, q152_82, q152_83, q152_86, q152_87, q152_88, q152_89, q152_90, q152_93, q152_94, q152_95, q152_96, q152_97, q152_100, q152_101, q152_102, q152_105, q152_106, q152_107, q152_110, q152_111, q152_112, q152_115, q152_116, q152_117, q152_120, q152_121, q152_122, q152_125, q152_126, q152_127, q152_128, q152_129, q152_132, q152_133, q152_134, q152_137, q152_138, q152_139, t1, ne0_1, ne0_2, ne0_3, ne0_4, ne0_5, ne0_6, ne0_7, ne0_8, ne0_9, ne0_10, ne0_11, ne0_12, ne1_0, ne1_2, ne1_3, ne1_4, ne1_5, ne1_6, ne1_7, ne1_8, ne1_9, ne1_10, ne1_11, ne1_12, ne2_0, ne2_1, ne2_3, ne2_4, ne2_5, ne2_6, ne2_7, ne2_8, ne2_9, ne2_10, ne2_11, ne2_12, ne3_0, ne3_1, ne3_2, ne3_4, ne3_5, ne3_6, ne3_7, ne3_8, ne3_9, ne3_10, ne3_11, ne3_12, ne4_0, ne4_1, ne4_2, ne4_3, ne4_5, ne4_6, ne4_7, ne4_8, ne4_9, ne4_10, ne4_11, ne4_12, ne5_0, ne5_1, ne5_2, ne5_3, ne5_4, ne5_6, ne5_7, ne5_8, ne5_9, ne5_10, ne5_11, ne5_12, ne6_0, ne6_1, ne6_2, ne6_3, ne6_4, ne6_5, ne6_7, ne6_8, ne6_9, ne6_10, ne6_11, ne6_12, ne7_0, ne7_1, ne7_2, ne7_3, ne7_4, ne7_5, ne7_6, ne7_8, ne7_9, ne7_10, ne7_11, ne7_12, ne8_0, ne8_1, ne8_2, ne8_3, ne8_4, ne8_5, ne8_6, ne8_7, ne8_9, ne8_10, ne8_11, ne8_12, ne9_0, ne9_1, ne9_2, ne9_3, ne9_4, ne9_5, ne9_6, ne9_7, ne9_8, ne9_10, ne9_11, ne9_12, ne10_0, ne10_1, ne10_2, ne10_3, ne10_4, ne10_5, ne10_6, ne10_7, ne10_8, ne10_9, ne10_11, ne10_12, ne11_0, ne11_1, ne11_2, ne11_3, ne11_4, ne11_5, ne11_6, ne11_7, ne11_8, ne11_9, ne11_10, ne11_12, ne12_0, ne12_1, ne12_2, ne12_3, ne12_4, ne12_5, ne12_6, ne12_7, ne12_8, ne12_9, ne12_10, ne12_11, zCall_some, Option.toList, List.cons_append, List.nil_append, zb_0, zb_1, zem, z01, z11, nI_add, ↓reduceIte, not_true_eq_false, not_false_eq_true, n0T, n1F, n11T, true_or, or_true, false_or, i4, e4]
                    · skip
                      by_cases z10 : what = nI 10
                      · subst z10
                        refine ⟨f1, a1, ?_, hR1, t3.w⟩
                        simp only [q152_0, q152_1, q152_4, q152_5, q152_68, q152_69, q152_72, q152_73, q152_74, q152_75, q152_76, q152_79, q152_80, q152_81, q152_82, q152_83, q152_86, q152_87, q152_88, q152_89, q152_90, q152_93, q152_94, q152_95, q152_96, q152_97, q152_100, q152_101, q152_102, q152_105, q152_106, q152_107, q152_110, q152_111, q152_112, q152_115, q152_116, q152_117, q152_120, q152_121, q152_122, q152_125, q152_126, q152_127, q152_128, q152_129, q152_132, q152_133, q152_134, q152_137, q152_138, q152_139, t1, ne0_1, ne0_2, ne0_3, ne0_4, ne0_5, ne0_6, ne0_7, ne0_8, ne0_9, ne0_10, ne0_11, ne0_12, ne1_0, ne1_2, ne1_3, ne1_4, ne1_5, ne1_6, ne1_7, ne1_8, ne1_9, ne1_10, ne1_11, ne1_12, ne2_0, ne2_1, ne2_3, ne2_4, ne2_5, ne2_6, ne2_7, ne2_8, ne2_9, ne2_10, ne2_11, ne2_12, ne3_0, ne3_1, ne3_2, ne3_4, ne3_5, ne3_6, ne3_7, ne3_8, ne3_9, ne3_10, ne3_11, ne3_12, ne4_0, ne4_1, ne4_2, ne4_3, ne4_5, ne4_6, ne4_7, ne4_8, ne4_9, ne4_10, ne4_11, ne4_12, ne5_0, ne5_1, ne5_2, ne5_3, ne5_4, ne5_6, ne5_7, ne5_8, ne5_9, ne5_10, ne5_11, ne5_12, ne6_0, ne6_1, ne6_2, ne6_3, ne6_4, ne6_5, ne6_7, ne6_8, ne6_9, ne6_10, ne6_11, ne6_12, ne7_0, ne7_1, ne7_2, ne7_3, ne7_4, ne7_5, ne7_6, ne7_8, ne7_9, ne7_10, ne7_11, ne7_12, ne8_0, ne8_1, ne8_2, ne8_3, ne8_4, ne8_5, ne8_6, ne8_7, ne8_9, ne8_10, ne8_11, ne8_12, ne9_0, ne9_1, ne9_2, ne9_3, ne9_4, ne9_5, ne9_6, ne9_7, ne9_8, ne9_10, ne9_11, ne9_12, ne10_0, ne10_1, ne10_2, ne10_3, ne10_4, ne10_5, ne10_6, ne10_7, ne10_8, ne10_9, ne10_11, ne10_12, ne11_0, ne11_1, ne11_2, ne11_3, ne11_4, ne11_5, ne11_6, ne11_7, ne11_8, ne11_9, ne11_10, ne11_12, ne12_0, ne12_1, ne12_2, ne12_3, ne12_4, ne12_5, ne12_6, ne12_7, ne12_8, ne12_9, ne12_10, ne12_11, zCall_some, Option.toList, List.cons_append, List.nil_append, zb_0, zb_1, zem, z01, z11, nI_add, ↓reduceIte, not_true_eq_false, not_false_eq_true, n0T, n1F, n11T, true_or, or_true, false_or, m_nightsAll hR1 hVR (fun g hg => (k9 g hg).2)]
                      · skip
                        by_cases z11 : what = nI 11
                        · subst z11
                          refine ⟨f2, a2, ?_, b2, t3.w.tr b3⟩
                          simp only [q152_0, q152_1, q152_4, q152_5, q152_68, q152_69, q152_72, q152_73, q152_74, q152_75, q152_76, q152_79, q152_80, q152_81, q152_82, q152_83, q152_86, q152_87, q152_88, q152_89, q152_90, q152_93, q152_94, q152_95, q152_96, q152_97, q152_100, q152_101, q152_102, q152_105, q152_106, q152_107, q152_110, q152_111, q152_112, q152_115, q152_116, q152_117, q152_120, q152_121, q152_122, q152_125, q152_126, q152_127, q152_128, q152_129, q152_132, q152_133, q152_134, q152_137, q152_138, q152_139, t1, ne0_1, ne0_2, ne0_3, ne0_4, ne0_5, ne0_6, ne0_7, ne0_8, ne0_9, ne0_10, ne0_11, ne0_12, ne1_0, ne1_2, ne1_3, ne1_4, ne1_5, ne1_6, ne1_7, ne1_8, ne1_9, ne1_10, ne1_11, ne1_12, ne2_0, ne2_1, ne2_3, ne2_4, ne2_5, ne2_6, ne2_7, ne2_8, ne2_9, ne2_10, ne2_11, ne2_12, ne3_0, ne3_1, ne3_2, ne3_4, ne3_5, ne3_6, ne3_7, ne3_8, ne3_9, ne3_10, ne3_11, ne3_12, ne4_0, ne4_1, ne4_2, ne4_3, ne4_5, ne4_6, ne4_7, ne4_8, ne4_9, ne4_10, ne4_11, ne4_12, ne5_0, ne5_1, ne5_2, ne5_3, ne5_4, ne5_6, ne5_7, ne5_8, ne5_9, ne5_10, ne5_11, ne5_12, ne6_0, ne6_1, ne6_2, ne6_3, ne6_4, ne6_5, ne6_7, ne6_8, ne6_9, ne6_10, ne6_11, ne6_12, ne7_0, ne7_1, ne7_2, ne7_3, ne7_4, ne7_5, ne7_6, ne7_8, ne7_9, ne7_10, ne7_11, ne7_12, ne8_0, ne8_1, ne8_2, ne8_3, ne8_4, ne8_5, ne8_6, ne8_7, ne8_9, ne8_10, ne8_11, ne8_12, ne9_0, ne9_1, ne9_2, ne9_3, ne9_4, ne9_5, ne9_6, ne9_7, ne9_8, ne9_10, ne9_11, ne9_12, ne10_0, ne10_1, ne10_2, ne10_3, ne10_4, ne10_5, ne10_6, ne10_7, ne10_8, ne10_9, ne10_11, ne10_12, ne11_0, ne11_1, ne11_2, ne11_3, ne11_4, ne11_5, ne11_6, ne11_7, ne11_8, ne11_9, ne11_10, ne11_12, ne12_0, ne12_1, ne12_2, ne12_3, ne12_4, ne12_5, ne12_6, ne12_7, ne12_8, ne12_9, ne12_10, ne12_11, zCall_some, Option.toList, List.cons_append, List.nil_append, zb_0, zb_1, zem, z01, z11, nI_add, ↓reduceIte, not_true_eq_false, not_false_eq_true, n0T, n1F, n11T, true_or, or_true, false_or, b1]
                        · skip
                          refine ⟨f1, a1, ?_, hR1, t3.w⟩
                          simp only [q152_0, q152_1, q152_4, q152_5, q152_68, q152_69, q152_72, q152_73, q152_74, q152_75, q152_76, q152_79, q152_80, q152_81, q152_82, q152_83, q152_86, q152_87, q152_88, q152_89, q152_90, q152_93, q152_94, q152_95, q152_96, q152_97, q152_100, q152_101, q152_102, q152_105, q152_106, q152_107, q152_110, q152_111, q152_112, q152_115, q152_116, q152_117, q152_120, q152_121, q152_122, q152_125, q152_126, q152_127, q152_128, q152_129, q152_132, q152_133, q152_134, q152_137, q152_138, q152_139, t1, ne0_1, ne0_2, ne0_3, ne0_4, ne0_5, ne0_6, ne0_7, ne0_8, ne0_9, ne0_10, ne0_11, ne0_12, ne1_0, ne1_2, ne1_3, ne1_4, ne1_5, ne1_6, ne1_7, ne1_8, ne1_9, ne1_10, ne1_11, ne1_12, ne2_0, ne2_1, ne2_3, ne2_4, ne2_5, ne2_6, ne2_7, ne2_8, ne2_9, ne2_10, ne2_11, ne2_12, ne3_0, ne3_1, ne3_2, ne3_4, ne3_5, ne3_6, ne3_7, ne3_8, ne3_9, ne3_10, ne3_11, ne3_12, ne4_0, ne4_1, ne4_2, ne4_3, ne4_5, ne4_6, ne4_7, ne4_8, ne4_9, ne4_10, ne4_11, ne4_12, ne5_0, ne5_1, ne5_2, ne5_3, ne5_4, ne5_6, ne5_7, ne5_8, ne5_9, ne5_10, ne5_11, ne5_12, ne6_0, ne6_1, ne6_2, ne6_3, ne6_4, ne6_5, ne6_7, ne6_8, ne6_9, ne6_10, ne6_11, ne6_12, ne7_0, ne7_1, ne7_2, ne7_3, ne7_4, ne7_5, ne7_6, ne7_8, ne7_9, ne7_10, ne7_11, ne7_12, ne8_0, ne8_1, ne8_2, ne8_3, ne8_4, ne8_5, ne8_6, ne8_7, ne8_9, ne8_10, ne8_11, ne8_12, ne9_0, ne9_1, ne9_2, ne9_3, ne9_4, ne9_5, ne9_6, ne9_7, ne9_8, ne9_10, ne9_11, ne9_12, ne10_0, ne10_1, ne10_2, ne10_3, ne10_4, ne10_5, ne10_6, ne10_7, ne10_8, ne10_9, ne10_11, ne10_12, ne11_0, ne11_1, ne11_2, ne11_3, ne11_4, ne11_5, ne11_6, ne11_7, ne11_8, ne11_9, ne11_10, ne11_12, ne12_0, ne12_1, ne12_2, ne12_3, ne12_4, ne12_5, ne12_6, ne12_7, ne12_8, ne12_9, ne12_10, ne12_11, zCall_some, Option.toList, List.cons_append, List.nil_append, zb_0, zb_1, zem, z01, z11, nI_add, ↓reduceIte, not_true_eq_false, not_false_eq_true, n0T, n1F, n11T, true_or, or_true, false_or, z0, z1, z2, z3, z4, z5, z6, z7, z8, z9, z10, z11]
theorem y_trade {sc : Int32 × (Int32 → Int32)} {f : zF} {a : zA} {j : zJ} {d : Nat} {σ : Nat → Nat} {x y h : Int32} (hR : MR σ a) (hV : VS σ) : ∃ (f' : zF) (a' : zA), cf sc (d + 7) 153 [.ref 85, .int x, .int y, .int h] f a j = some (some (.int (tdS σ x y h).1), f', a', j) ∧ MR (tdS σ x y h).2 a' ∧ MFW f f' a a' := by
  have hVR := hV.1.1
  have hn := hVR.1
  have hw : σ 3 ≤ 1010 := by have := hV.1.2.2.2.2; omega
  have hTr : true = true → TrOK σ (σ 3) := fun _ => hV.2.1
  have hF : ∀ v : Int32, cf sc (d + 6) 109 [.ref 85, .int v] f a j = some (some (.int (zb (zHas v (σ 0)))), f, a, j) := fun v => m_isField (d := d + 4) hR hn
  have h12 := hV.2.1.1
  rw [en153]
  unfold tdS
  by_cases hx : zHas x (σ 0)
  · by_cases hy : zHas y (σ 0)
    · by_cases hxy : x = y
      · rw [if_neg (fun q => q.2.2 hxy)]
        refine ⟨f, a, ?_, hR, MFW.rf⟩
        simp only [q153_0, q153_1, q153_2, q153_5, q153_8, q153_9, q153_10, q153_13, q153_16, q153_17, q153_18, q153_21, q153_22, q153_23, q153_24, q153_25, q153_26, q153_29, q153_32, q153_35, q153_37, q153_38, q153_39, q153_42, q153_43, q153_44, q153_47, q153_50, q153_51, q153_52, q153_55, q153_58, q153_59, q153_62, q153_63, q153_64, q153_65, q153_68, q153_70, q153_71, q153_72, q153_75, q153_76, q153_77, q153_79, q153_82, q153_84, q153_85, q153_86, q153_89, q153_90, q153_91, q153_93, q153_94, q153_97, q153_99, q153_101, q153_102, q153_103, q153_104, q153_105, q153_108, q153_110, q153_112, q153_113, q153_114, q153_115, q153_116, q153_119, q153_121, q153_123, q153_124, q153_125, q153_126, q153_127, q153_130, q153_131, q153_132, q153_133, q153_134, q153_135, q153_136, q153_137, q153_140, q153_141, q153_142, hF, eq_true hx, eq_true hy, eq_true hxy, zCall_some, Option.toList, List.cons_append, List.nil_append, zb_0, zb_1, zem, z01, z11, nI_add, ↓reduceIte, not_true_eq_false, not_false_eq_true, n0T, n1F, n11T, true_or, or_true, false_or]
      · rw [if_pos ⟨hx, hy, hxy⟩]
        by_cases hh : zBtw h 1 96
        · rw [if_pos hh]
          obtain ⟨p, hp, rfl⟩ := zHas_of (by omega) hx
          obtain ⟨q, hq, rfl⟩ := zHas_of (by omega) hy
          obtain ⟨m, m1, m2, rfl⟩ := zBtw_of (by omega) (by omega) hh
          rw [nI_clamp (n := p) (by omega), nI_clamp (n := q) (by omega), nI_clamp (n := m) (by omega)]
          obtain ⟨f1, a1, t1, t2, t3⟩ := m_now (sc := sc) (d := d) (f := f) (j := j) hR hV
          have hR1 := t3.r hR
          have hA1 := m_isAwayR (sc := sc) (d := d + 5) (f := f1) (j := j) hR1 (show p < 8 by omega) (hVR.2.2.1 p hp).2.2
          have hA2 := m_isAwayR (sc := sc) (d := d + 5) (f := f1) (j := j) hR1 (show q < 8 by omega) (hVR.2.2.1 q hq).2.2
          have i93 : zIx 21 93 (nI p) := ix93 (by omega)
          have r93 := t2.2.1 p hp
          have h97 := hv_97 hVR hTr hp
          have i4 : zIx 21 86 (nI 4) := ix86 (by omega)
          have e4 := hR1 4 (by omega)
          by_cases w1 : σ (32 + p) = 1
          · rw [if_neg (fun z => z.1 w1)]
            refine ⟨f1, a1, ?_, hR1, t3.w⟩
            simp only [q153_0, q153_1, q153_2, q153_5, q153_8, q153_9, q153_10, q153_13, q153_16, q153_17, q153_18, q153_21, q153_22, q153_23, q153_24, q153_25, q153_26, q153_29, q153_32, q153_35, q153_37, q153_38, q153_39, q153_42, q153_43, q153_44, q153_47, q153_50, q153_51, q153_52, q153_55, q153_58, q153_59, q153_62, q153_63, q153_64, q153_65, q153_68, q153_70, q153_71, q153_72, q153_75, q153_76, q153_77, q153_79, q153_82, q153_84, q153_85, q153_86, q153_89, q153_90, q153_91, q153_93, q153_94, q153_97, q153_99, q153_101, q153_102, q153_103, q153_104, q153_105, q153_108, q153_110, q153_112, q153_113, q153_114, q153_115, q153_116, q153_119, q153_121, q153_123, q153_124, q153_125, q153_126, q153_127, q153_130, q153_131, q153_132, q153_133, q153_134, q153_135, q153_136, q153_137, q153_140, q153_141, q153_142, hF, eq_true hx, eq_true hy, eq_false hxy, in196, eq_true hh, t1, hA1, eq_true w1, zCall_some, Option.toList, List.cons_append, List.nil_append, zb_0, zb_1, zem, z01, z11, nI_add, ↓reduceIte, not_true_eq_false, not_false_eq_true, n0T, n1F, n11T, true_or, or_true, false_or]
          · by_cases w2 : σ (32 + q) = 1
            · rw [if_neg (fun z => z.2.1 w2)]
              refine ⟨f1, a1, ?_, hR1, t3.w⟩
              simp only [q153_0, q153_1, q153_2, q153_5, q153_8, q153_9, q153_10, q153_13, q153_16, q153_17, q153_18, q153_21, q153_22, q153_23, q153_24, q153_25, q153_26, q153_29, q153_32, q153_35, q153_37, q153_38, q153_39, q153_42, q153_43, q153_44, q153_47, q153_50, q153_51, q153_52, q153_55, q153_58, q153_59, q153_62, q153_63, q153_64, q153_65, q153_68, q153_70, q153_71, q153_72, q153_75, q153_76, q153_77, q153_79, q153_82, q153_84, q153_85, q153_86, q153_89, q153_90, q153_91, q153_93, q153_94, q153_97, q153_99, q153_101, q153_102, q153_103, q153_104, q153_105, q153_108, q153_110, q153_112, q153_113, q153_114, q153_115, q153_116, q153_119, q153_121, q153_123, q153_124, q153_125, q153_126, q153_127, q153_130, q153_131, q153_132, q153_133, q153_134, q153_135, q153_136, q153_137, q153_140, q153_141, q153_142, hF, eq_true hx, eq_true hy, eq_false hxy, in196, eq_true hh, t1, hA1, hA2, eq_false w1, eq_true w2, zCall_some, Option.toList, List.cons_append, List.nil_append, zb_0, zb_1, zem, z01, z11, nI_add, ↓reduceIte, not_true_eq_false, not_false_eq_true, n0T, n1F, n11T, true_or, or_true, false_or]
            · by_cases w3 : m ≤ hvOf σ (σ 3) true p
              · rw [if_pos ⟨w1, w2, w3⟩]
                have c1 : nI m ≤ nI (hvOf σ (σ 3) true p) := nI_le w3 (by omega)
                have q12 : (nI (σ 4) = nI 12) = (σ 4 = 12) := propext (nI_eq (by omega) (by omega))
                by_cases w4 : σ 4 < 12
                · rw [if_pos w4]
                  have n12 : ¬ σ 4 = 12 := by omega
                  have i40 : zIx 21 86 (nI (40 + σ 4)) := ix86 (by omega)
                  have i52 : zIx 21 86 (nI (52 + σ 4)) := ix86 (by omega)
                  have i64 : zIx 21 86 (nI (64 + σ 4)) := ix86 (by omega)
                  have hR2 : MR (zup (zup (zup σ (40 + σ 4) p) (52 + σ 4) q) (64 + σ 4) m) (zuA (zuA (zuA a1 86 (nI (40 + σ 4)) (nI p)) 86 (nI (52 + σ 4)) (nI q)) 86 (nI (64 + σ 4)) (nI m)) := ((hR1.set (by omega)).set (by omega)).set (by omega)
                  have e4' := hR2 4 (by omega)
                  rw [zup_ne (by omega), zup_ne (by omega), zup_ne (by omega)] at e4'
                  refine ⟨f1, zuA (zuA (zuA (zuA a1 86 (nI (40 + σ 4)) (nI p)) 86 (nI (52 + σ 4)) (nI q)) 86 (nI (64 + σ 4)) (nI m)) 86 (nI 4) (nI (σ 4 + 1)), ?_, hR2.set (by omega), t3.w.tr (MFW.a (fun k hk => by rw [zuA_nk (by omega), zuA_nk (by omega), zuA_nk (by omega), zuA_nk (by omega)]))⟩
                  simp only [q153_0, q153_1, q153_2, q153_5, q153_8, q153_9, q153_10, q153_13, q153_16, q153_17, q153_18, q153_21, q153_22, q153_23, q153_24, q153_25, q153_26, q153_29, q153_32, q153_35, q153_37, q153_38, q153_39, q153_42, q153_43, q153_44, q153_47, q153_50, q153_51, q153_52, q153_55, q153_58, q153_59, q153_62, q153_63, q153_64, q153_65, q153_68, q153_70, q153_71, q153_72, q153_75, q153_76, q153_77, q153_79, q153_82, q153_84, q153_85, q153_86, q153_89, q153_90, q153_91, q153_93, q153_94, q153_97, q153_99, q153_101, q153_102, q153_103, q153_104, q153_105, q153_108, q153_110, q153_112, q153_113, q153_114, q153_115, q153_116, q153_119, q153_121, q153_123, q153_124, q153_125, q153_126, q153_127, q153_130, q153_131, q153_132, q153_133, q153_134, q153_135, q153_136, q153_137, q153_140, q153_141, q153_142, hF, eq_true hx, eq_true hy, eq_false hxy, in196, eq_true hh, t1, hA1, hA2, eq_false w1, eq_false w2, i93, r93, c1, i4, e4, q12, n12, i40, i52, i64, e4', zuA_eq, zCall_some, Option.toList, List.cons_append, List.nil_append, zb_0, zb_1, zem, z01, z11, nI_add, ↓reduceIte, not_true_eq_false, not_false_eq_true, n0T, n1F, n11T, true_or, or_true, false_or]
                · rw [if_neg w4]
                  have n12 : σ 4 = 12 := by omega
                  refine ⟨f1, a1, ?_, hR1, t3.w⟩
                  simp only [q153_0, q153_1, q153_2, q153_5, q153_8, q153_9, q153_10, q153_13, q153_16, q153_17, q153_18, q153_21, q153_22, q153_23, q153_24, q153_25, q153_26, q153_29, q153_32, q153_35, q153_37, q153_38, q153_39, q153_42, q153_43, q153_44, q153_47, q153_50, q153_51, q153_52, q153_55, q153_58, q153_59, q153_62, q153_63, q153_64, q153_65, q153_68, q153_70, q153_71, q153_72, q153_75, q153_76, q153_77, q153_79, q153_82, q153_84, q153_85, q153_86, q153_89, q153_90, q153_91, q153_93, q153_94, q153_97, q153_99, q153_101, q153_102, q153_103, q153_104, q153_105, q153_108, q153_110, q153_112, q153_113, q153_114, q153_115, q153_116, q153_119, q153_121, q153_123, q153_124, q153_125, q153_126, q153_127, q153_130, q153_131, q153_132, q153_133, q153_134, q153_135, q153_136, q153_137, q153_140, q153_141, q153_142, hF, eq_true hx, eq_true hy, eq_false hxy, in196, eq_true hh, t1, hA1, hA2, eq_false w1, eq_false w2, i93, r93, c1, i4, e4, q12, eq_true n12, zCall_some, Option.toList, List.cons_append, List.nil_append, zb_0, zb_1, zem, z01, z11, nI_add, ↓reduceIte, not_true_eq_false, not_false_eq_true, n0T, n1F, n11T, true_or, or_true, false_or]
              · rw [if_neg (fun z => w3 z.2.2)]
                have c1 : ¬ nI m ≤ nI (hvOf σ (σ 3) true p) := nI_ge (by omega) (by omega)
                refine ⟨f1, a1, ?_, hR1, t3.w⟩
                simp only [q153_0, q153_1, q153_2, q153_5, q153_8, q153_9, q153_10, q153_13, q153_16, q153_17, q153_18, q153_21, q153_22, q153_23, q153_24, q153_25, q153_26, q153_29, q153_32, q153_35, q153_37, q153_38, q153_39, q153_42, q153_43, q153_44, q153_47, q153_50, q153_51, q153_52, q153_55, q153_58, q153_59, q153_62, q153_63, q153_64, q153_65, q153_68, q153_70, q153_71, q153_72, q153_75, q153_76, q153_77, q153_79, q153_82, q153_84, q153_85, q153_86, q153_89, q153_90, q153_91, q153_93, q153_94, q153_97, q153_99, q153_101, q153_102, q153_103, q153_104, q153_105, q153_108, q153_110, q153_112, q153_113, q153_114, q153_115, q153_116, q153_119, q153_121, q153_123, q153_124, q153_125, q153_126, q153_127, q153_130, q153_131, q153_132, q153_133, q153_134, q153_135, q153_136, q153_137, q153_140, q153_141, q153_142, hF, eq_true hx, eq_true hy, eq_false hxy, in196, eq_true hh, t1, hA1, hA2, eq_false w1, eq_false w2, i93, r93, c1, zCall_some, Option.toList, List.cons_append, List.nil_append, zb_0, zb_1, zem, z01, z11, nI_add, ↓reduceIte, not_true_eq_false, not_false_eq_true, n0T, n1F, n11T, true_or, or_true, false_or]
        · rw [if_neg hh]
          refine ⟨f, a, ?_, hR, MFW.rf⟩
          simp only [q153_0, q153_1, q153_2, q153_5, q153_8, q153_9, q153_10, q153_13, q153_16, q153_17, q153_18, q153_21, q153_22, q153_23, q153_24, q153_25, q153_26, q153_29, q153_32, q153_35, q153_37, q153_38, q153_39, q153_42, q153_43, q153_44, q153_47, q153_50, q153_51, q153_52, q153_55, q153_58, q153_59, q153_62, q153_63, q153_64, q153_65, q153_68, q153_70, q153_71, q153_72, q153_75, q153_76, q153_77, q153_79, q153_82, q153_84, q153_85, q153_86, q153_89, q153_90, q153_91, q153_93, q153_94, q153_97, q153_99, q153_101, q153_102, q153_103, q153_104, q153_105, q153_108, q153_110, q153_112, q153_113, q153_114, q153_115, q153_116, q153_119, q153_121, q153_123, q153_124, q153_125, q153_126, q153_127, q153_130, q153_131, q153_132, q153_133, q153_134, q153_135, q153_136, q153_137, q153_140, q153_141, q153_142, hF, eq_true hx, eq_true hy, eq_false hxy, in196, eq_false hh, zCall_some, Option.toList, List.cons_append, List.nil_append, zb_0, zb_1, zem, z01, z11, nI_add, ↓reduceIte, not_true_eq_false, not_false_eq_true, n0T, n1F, n11T, true_or, or_true, false_or]
    · rw [if_neg (fun q => hy q.2.1)]
      refine ⟨f, a, ?_, hR, MFW.rf⟩
      simp only [q153_0, q153_1, q153_2, q153_5, q153_8, q153_9, q153_10, q153_13, q153_16, q153_17, q153_18, q153_21, q153_22, q153_23, q153_24, q153_25, q153_26, q153_29, q153_32, q153_35, q153_37, q153_38, q153_39, q153_42, q153_43, q153_44, q153_47, q153_50, q153_51, q153_52, q153_55, q153_58, q153_59, q153_62, q153_63, q153_64, q153_65, q153_68, q153_70, q153_71, q153_72, q153_75, q153_76, q153_77, q153_79, q153_82, q153_84, q153_85, q153_86, q153_89, q153_90, q153_91, q153_93, q153_94, q153_97, q153_99, q153_101, q153_102, q153_103, q153_104, q153_105, q153_108, q153_110, q153_112, q153_113, q153_114, q153_115, q153_116, q153_119, q153_121, q153_123, q153_124, q153_125, q153_126, q153_127, q153_130, q153_131, q153_132, q153_133, q153_134, q153_135, q153_136, q153_137, q153_140, q153_141, q153_142, hF, eq_true hx, eq_false hy, zCall_some, Option.toList, List.cons_append, List.nil_append, zb_0, zb_1, zem, z01, z11, nI_add, ↓reduceIte, not_true_eq_false, not_false_eq_true, n0T, n1F, n11T, true_or, or_true, false_or]
  · rw [if_neg (fun q => hx q.1)]
    refine ⟨f, a, ?_, hR, MFW.rf⟩
    simp only [q153_0, q153_1, q153_2, q153_5, q153_8, q153_9, q153_10, q153_13, q153_16, q153_17, q153_18, q153_21, q153_22, q153_23, q153_24, q153_25, q153_26, q153_29, q153_32, q153_35, q153_37, q153_38, q153_39, q153_42, q153_43, q153_44, q153_47, q153_50, q153_51, q153_52, q153_55, q153_58, q153_59, q153_62, q153_63, q153_64, q153_65, q153_68, q153_70, q153_71, q153_72, q153_75, q153_76, q153_77, q153_79, q153_82, q153_84, q153_85, q153_86, q153_89, q153_90, q153_91, q153_93, q153_94, q153_97, q153_99, q153_101, q153_102, q153_103, q153_104, q153_105, q153_108, q153_110, q153_112, q153_113, q153_114, q153_115, q153_116, q153_119, q153_121, q153_123, q153_124, q153_125, q153_126, q153_127, q153_130, q153_131, q153_132, q153_133, q153_134, q153_135, q153_136, q153_137, q153_140, q153_141, q153_142, hF, eq_false hx, zCall_some, Option.toList, List.cons_append, List.nil_append, zb_0, zb_1, zem, z01, z11, nI_add, ↓reduceIte, not_true_eq_false, not_false_eq_true, n0T, n1F, n11T, true_or, or_true, false_or]
