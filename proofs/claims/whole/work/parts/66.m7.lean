/-! ===== the reference: of, turn, lag, line, who, shared, told, trade, over, mean, odds ===== -/
theorem y_of {sc : Int32 × (Int32 → Int32)} {f : zF} {a : zA} {j : zJ} {d : Nat} {σ : Nat → Nat} {v what : Int32} (hR : MR σ a) (hV : VS σ) : ∃ (f' : zF) (a' : zA), cf sc (d + 7) 131 [.ref 85, .int v, .int what] f a j = some (some (.int (sOf σ v what)), f', a', j) ∧ MF f f' a a' := by
  have hVR := hV.1.1
  have hn := hVR.1
  have hw : σ 3 ≤ 1010 := by have := hV.1.2.2.2.2; omega
  have hTr : true = true → TrOK σ (σ 3) := fun _ => hV.2.1
  have hF := m_isField (sc := sc) (d := d + 4) (f := f) (j := j) (v := v) hR hn
  obtain ⟨f1, a1, t1, t2, t3⟩ := m_now (sc := sc) (d := d) (f := f) (j := j) hR hV
  have hR1 := t3.r hR
  rw [en131]
  unfold sOf
  by_cases hv : zHas v (σ 0)
  · refine ⟨f1, a1, ?_, t3⟩
    obtain ⟨g, hg, rfl⟩ := zHas_of (by omega) hv
    have ec : (nI g).toNatClampNeg = g := nI_clamp (by omega)
    rw [if_pos hv, ec]
    obtain ⟨⟨k1, k2, k3, k4, k5, k6, k7⟩, k8, k9⟩ := t2
    have i16 : zIx 21 86 (nI (16 + g)) := ix86 (by omega)
    have i24 : zIx 21 86 (nI (24 + g)) := ix86 (by omega)
    have i32 : zIx 21 86 (nI (32 + g)) := ix86 (by omega)
    have i92 : zIx 21 92 (nI g) := ix92 (by omega)
    have i93 : zIx 21 93 (nI g) := ix93 (by omega)
    have i94 : zIx 21 94 (nI g) := ix94 (by omega)
    have i95 : zIx 21 95 (nI g) := ix95 (by omega)
    have r16 := hR1 (16 + g) (by omega)
    have r24 := hR1 (24 + g) (by omega)
    have r32 := hR1 (32 + g) (by omega)
    have r92 := k7 g (by omega)
    have r93 := k8 g hg
    have r94 := (k9 g hg).1
    have r95 := (k9 g hg).2
    by_cases e0 : what = nI 0
    · subst e0
      simp only [q131_0, q131_1, q131_2, q131_5, q131_8, q131_9, q131_10, q131_11, q131_14, q131_15, q131_64, q131_65, q131_68, q131_70, q131_71, q131_72, q131_73, q131_74, q131_75, q131_78, q131_80, q131_81, q131_82, q131_83, q131_84, q131_85, q131_88, q131_90, q131_91, q131_92, q131_93, q131_94, q131_95, q131_98, q131_99, q131_100, q131_101, q131_102, q131_105, q131_106, q131_107, q131_108, q131_109, q131_112, q131_113, q131_114, q131_116, q131_119, q131_121, q131_124, q131_125, q131_128, q131_129, q131_130, q131_131, q131_134, q131_135, q131_136, q131_137, q131_138, q131_139, q131_142, q131_143, q131_144, q131_145, q131_146, q131_147, q131_150, q131_151, q131_152, q131_155, q131_156, q131_157, q131_158, q131_159, hF, eq_true hv, t1, ne0_1, ne0_2, ne0_3, ne0_4, ne0_5, ne0_6, ne0_7, ne0_8, ne0_9, ne0_10, ne0_11, ne0_12, ne1_0, ne1_2, ne1_3, ne1_4, ne1_5, ne1_6, ne1_7, ne1_8, ne1_9, ne1_10, ne1_11, ne1_12, ne2_0, ne2_1, ne2_3, ne2_4, ne2_5, ne2_6, ne2_7, ne2_8, ne2_9, ne2_10, ne2_11, ne2_12, ne3_0, ne3_1, ne3_2, ne3_4, ne3_5, ne3_6, ne3_7, ne3_8, ne3_9, ne3_10, ne3_11, ne3_12, ne4_0, ne4_1, ne4_2, ne4_3, ne4_5, ne4_6, ne4_7, ne4_8, ne4_9, ne4_10, ne4_11, ne4_12, ne5_0, ne5_1, ne5_2, ne5_3, ne5_4, ne5_6, ne5_7, ne5_8, ne5_9, ne5_10, ne5_11, ne5_12, ne6_0, ne6_1, ne6_2, ne6_3, ne6_4, ne6_5, ne6_7, ne6_8, ne6_9, ne6_10, ne6_11, ne6_12, ne7_0, ne7_1, ne7_2, ne7_3, ne7_4, ne7_5, ne7_6, ne7_8, ne7_9, ne7_10, ne7_11, ne7_12, ne8_0, ne8_1, ne8_2, ne8_3, ne8_4, ne8_5, ne8_6, ne8_7, ne8_9, ne8_10, ne8_11, ne8_12, ne9_0, ne9_1, ne9_2, ne9_3, ne9_4, ne9_5, ne9_6, ne9_7, ne9_8, ne9_10, ne9_11, ne9_12, ne10_0, ne10_1, ne10_2, ne10_3, ne10_4, ne10_5, ne10_6, ne10_7, ne10_8, ne10_9, ne10_11, ne10_12, ne11_0, ne11_1, ne11_2, ne11_3, ne11_4, ne11_5, ne11_6, ne11_7, ne11_8, ne11_9, ne11_10, ne11_12, ne12_0, ne12_1, ne12_2, ne12_3, ne12_4, ne12_5, ne12_6, ne12_7, ne12_8, ne12_9, ne12_10, ne12_11, zCall_some, Option.toList, List.cons_append, List.nil_append, zb_0, zb_1, zem, z01, z11, nI_add, ↓reduceIte, not_true_eq_false, not_false_eq_true, n0T, n1F, n11T, true_or, or_true, false_or, i16, r16]
    · skip
      by_cases e1 : what = nI 1
      · subst e1
        simp only [q131_0, q131_1, q131_2, q131_5, q131_8, q131_9, q131_10, q131_11, q131_14, q131_15, q131_64, q131_65, q131_68, q131_70, q131_71, q131_72, q131_73, q131_74, q131_75, q131_78, q131_80, q131_81, q131_82, q131_83, q131_84, q131_85, q131_88, q131_90, q131_91, q131_92, q131_93, q131_94, q131_95, q131_98, q131_99, q131_100, q131_101, q131_102, q131_105, q131_106, q131_107, q131_108, q131_109, q131_112, q131_113, q131_114, q131_116, q131_119, q131_121, q131_124, q131_125, q131_128, q131_129, q131_130, q131_131, q131_134, q131_135, q131_136, q131_137, q131_138, q131_139, q131_142, q131_143, q131_144, q131_145, q131_146, q131_147, q131_150, q131_151, q131_152, q131_155, q131_156, q131_157, q131_158, q131_159, hF, eq_true hv, t1, ne0_1, ne0_2, ne0_3, ne0_4, ne0_5, ne0_6, ne0_7, ne0_8, ne0_9, ne0_10, ne0_11, ne0_12, ne1_0, ne1_2, ne1_3, ne1_4, ne1_5, ne1_6, ne1_7, ne1_8, ne1_9, ne1_10, ne1_11, ne1_12, ne2_0, ne2_1, ne2_3, ne2_4, ne2_5, ne2_6, ne2_7, ne2_8, ne2_9, ne2_10, ne2_11, ne2_12, ne3_0, ne3_1, ne3_2, ne3_4, ne3_5, ne3_6, ne3_7, ne3_8, ne3_9, ne3_10, ne3_11, ne3_12, ne4_0, ne4_1, ne4_2, ne4_3, ne4_5, ne4_6, ne4_7, ne4_8, ne4_9, ne4_10, ne4_11, ne4_12, ne5_0, ne5_1, ne5_2, ne5_3, ne5_4, ne5_6, ne5_7, ne5_8, ne5_9, ne5_10, ne5_11, ne5_12, ne6_0, ne6_1, ne6_2, ne6_3, ne6_4, ne6_5, ne6_7, ne6_8, ne6_9, ne6_10, ne6_11, ne6_12, ne7_0, ne7_1, ne7_2, ne7_3, ne7_4, ne7_5, ne7_6, ne7_8, ne7_9, ne7_10, ne7_11, ne7_12, ne8_0, ne8_1, ne8_2, ne8_3, ne8_4, ne8_5, ne8_6, ne8_7, ne8_9, ne8_10, ne8_11, ne8_12, ne9_0, ne9_1, ne9_2, ne9_3, ne9_4, ne9_5, ne9_6, ne9_7, ne9_8, ne9_10, ne9_11, ne9_12, ne10_0, ne10_1, ne10_2, ne10_3, ne10_4, ne10_5, ne10_6, ne10_7, ne10_8, ne10_9, ne10_11, ne10_12, ne11_0, ne11_1, ne11_2, ne11_3, ne11_4, ne11_5, ne11_6, ne11_7, ne11_8, ne11_9, ne11_10, ne11_12, ne12_0, ne12_1, ne12_2, ne12_3, ne12_4, ne12_5, ne12_6, ne12_7, ne12_8, ne12_9, ne12_10, ne12_11, zCall_some, Option.toList, List.cons_append, List.nil_append, zb_0, zb_1, zem, z01, z11, nI_add, ↓reduceIte, not_true_eq_false, not_false_eq_true, n0T, n1F, n11T, true_or, or_true, false_or, i24, r24]
      · skip
        by_cases e2 : what = nI 2
        · subst e2
          simp only [q131_0, q131_1, q131_2, q131_5, q131_8, q131_9, q131_10, q131_11, q131_14, q131_15, q131_64, q131_65, q131_68, q131_70, q131_71, q131_72, q131_73, q131_74, q131_75, q131_78, q131_80, q131_81, q131_82, q131_83, q131_84, q131_85, q131_88, q131_90, q131_91, q131_92, q131_93, q131_94, q131_95, q131_98, q131_99, q131_100, q131_101, q131_102, q131_105, q131_106, q131_107, q131_108, q131_109, q131_112, q131_113, q131_114, q131_116, q131_119, q131_121, q131_124, q131_125, q131_128, q131_129, q131_130, q131_131, q131_134, q131_135, q131_136, q131_137, q131_138, q131_139, q131_142, q131_143, q131_144, q131_145, q131_146, q131_147, q131_150, q131_151, q131_152, q131_155, q131_156, q131_157, q131_158, q131_159, hF, eq_true hv, t1, ne0_1, ne0_2, ne0_3, ne0_4, ne0_5, ne0_6, ne0_7, ne0_8, ne0_9, ne0_10, ne0_11, ne0_12, ne1_0, ne1_2, ne1_3, ne1_4, ne1_5, ne1_6, ne1_7, ne1_8, ne1_9, ne1_10, ne1_11, ne1_12, ne2_0, ne2_1, ne2_3, ne2_4, ne2_5, ne2_6, ne2_7, ne2_8, ne2_9, ne2_10, ne2_11, ne2_12, ne3_0, ne3_1, ne3_2, ne3_4, ne3_5, ne3_6, ne3_7, ne3_8, ne3_9, ne3_10, ne3_11, ne3_12, ne4_0, ne4_1, ne4_2, ne4_3, ne4_5, ne4_6, ne4_7, ne4_8, ne4_9, ne4_10, ne4_11, ne4_12, ne5_0, ne5_1, ne5_2, ne5_3, ne5_4, ne5_6, ne5_7, ne5_8, ne5_9, ne5_10, ne5_11, ne5_12, ne6_0, ne6_1, ne6_2, ne6_3, ne6_4, ne6_5, ne6_7, ne6_8, ne6_9, ne6_10, ne6_11, ne6_12, ne7_0, ne7_1, ne7_2, ne7_3, ne7_4, ne7_5, ne7_6, ne7_8, ne7_9, ne7_10, ne7_11, ne7_12, ne8_0, ne8_1, ne8_2, ne8_3, ne8_4, ne8_5, ne8_6, ne8_7, ne8_9, ne8_10, ne8_11, ne8_12, ne9_0, ne9_1, ne9_2, ne9_3, ne9_4, ne9_5, ne9_6, ne9_7, ne9_8, ne9_10, ne9_11, ne9_12, ne10_0, ne10_1, ne10_2, ne10_3, ne10_4, ne10_5, ne10_6, ne10_7, ne10_8, ne10_9, ne10_11, ne10_12, ne11_0, ne11_1, ne11_2, ne11_3, ne11_4, ne11_5, ne11_6, ne11_7, ne11_8, ne11_9, ne11_10, ne11_12, ne12_0, ne12_1, ne12_2, ne12_3, ne12_4, ne12_5, ne12_6, ne12_7, ne12_8, ne12_9, ne12_10, ne12_11, zCall_some, Option.toList, List.cons_append, List.nil_append, zb_0, zb_1, zem, z01, z11, nI_add, ↓reduceIte, not_true_eq_false, not_false_eq_true, n0T, n1F, n11T, true_or, or_true, false_or, i32, r32]
        · skip
          by_cases e3 : what = nI 3
          · subst e3
            simp only [q131_0, q131_1, q131_2, q131_5, q131_8, q131_9, q131_10, q131_11, q131_14, q131_15, q131_64, q131_65, q131_68, q131_70, q131_71, q131_72, q131_73, q131_74, q131_75, q131_78, q131_80, q131_81, q131_82, q131_83, q131_84, q131_85, q131_88, q131_90, q131_91, q131_92, q131_93, q131_94, q131_95, q131_98, q131_99, q131_100, q131_101, q131_102, q131_105, q131_106, q131_107, q131_108, q131_109, q131_112, q131_113, q131_114, q131_116, q131_119, q131_121, q131_124, q131_125, q131_128, q131_129, q131_130, q131_131, q131_134, q131_135, q131_136, q131_137, q131_138, q131_139, q131_142, q131_143, q131_144, q131_145, q131_146, q131_147, q131_150, q131_151, q131_152, q131_155, q131_156, q131_157, q131_158, q131_159, hF, eq_true hv, t1, ne0_1, ne0_2, ne0_3, ne0_4, ne0_5, ne0_6, ne0_7, ne0_8, ne0_9, ne0_10, ne0_11, ne0_12, ne1_0, ne1_2, ne1_3, ne1_4, ne1_5, ne1_6, ne1_7, ne1_8, ne1_9, ne1_10, ne1_11, ne1_12, ne2_0, ne2_1, ne2_3, ne2_4, ne2_5, ne2_6, ne2_7, ne2_8, ne2_9, ne2_10, ne2_11, ne2_12, ne3_0, ne3_1, ne3_2, ne3_4, ne3_5, ne3_6, ne3_7, ne3_8, ne3_9, ne3_10, ne3_11, ne3_12, ne4_0, ne4_1, ne4_2, ne4_3, ne4_5, ne4_6, ne4_7, ne4_8, ne4_9, ne4_10, ne4_11, ne4_12, ne5_0, ne5_1, ne5_2, ne5_3, ne5_4, ne5_6, ne5_7, ne5_8, ne5_9, ne5_10, ne5_11, ne5_12, ne6_0, ne6_1, ne6_2, ne6_3, ne6_4, ne6_5, ne6_7, ne6_8, ne6_9, ne6_10, ne6_11, ne6_12, ne7_0, ne7_1, ne7_2, ne7_3, ne7_4, ne7_5, ne7_6, ne7_8, ne7_9, ne7_10, ne7_11, ne7_12, ne8_0, ne8_1, ne8_2, ne8_3, ne8_4, ne8_5, ne8_6, ne8_7, ne8_9, ne8_10, ne8_11, ne8_12, ne9_0, ne9_1, ne9_2, ne9_3, ne9_4, ne9_5, ne9_6, ne9_7, ne9_8, ne9_10, ne9_11, ne9_12, ne10_0, ne10_1, ne10_2, ne10_3, ne10_4, ne10_5, ne10_6, ne10_7, ne10_8, ne10_9, ne10_11, ne10_12, ne11_0, ne11_1, ne11_2, ne11_3, ne11_4, ne11_5, ne11_6, ne11_7, ne11_8, ne11_9, ne11_10, ne11_12, ne12_0, ne12_1, ne12_2, ne12_3, ne12_4, ne12_5, ne12_6, ne12_7, ne12_8, ne12_9, ne12_10, ne12_11, zCall_some, Option.toList, List.cons_append, List.nil_append, zb_0, zb_1, zem, z01, z11, nI_add, ↓reduceIte, not_true_eq_false, not_false_eq_true, n0T, n1F, n11T, true_or, or_true, false_or, i93, r93]
          · skip
            by_cases e4 : what = nI 4
            · subst e4
              simp only [q131_0, q131_1, q131_2, q131_5, q131_8, q131_9, q131_10, q131_11, q131_14, q131_15, q131_64, q131_65, q131_68, q131_70, q131_71, q131_72, q131_73, q131_74, q131_75, q131_78, q131_80, q131_81, q131_82, q131_83, q131_84, q131_85, q131_88, q131_90, q131_91, q131_92, q131_93, q131_94, q131_95, q131_98, q131_99, q131_100, q131_101, q131_102, q131_105, q131_106, q131_107, q131_108, q131_109, q131_112, q131_113, q131_114, q131_116, q131_119, q131_121, q131_124, q131_125, q131_128, q131_129, q131_130, q131_131, q131_134, q131_135, q131_136, q131_137, q131_138, q131_139, q131_142, q131_143, q131_144, q131_145, q131_146, q131_147, q131_150, q131_151, q131_152, q131_155, q131_156, q131_157, q131_158, q131_159, hF, eq_true hv, t1, ne0_1, ne0_2, ne0_3, ne0_4, ne0_5, ne0_6, ne0_7, ne0_8, ne0_9, ne0_10, ne0_11, ne0_12, ne1_0, ne1_2, ne1_3, ne1_4, ne1_5, ne1_6, ne1_7, ne1_8, ne1_9, ne1_10, ne1_11, ne1_12, ne2_0, ne2_1, ne2_3, ne2_4, ne2_5, ne2_6, ne2_7, ne2_8, ne2_9, ne2_10, ne2_11, ne2_12, ne3_0, ne3_1, ne3_2, ne3_4, ne3_5, ne3_6, ne3_7, ne3_8, ne3_9, ne3_10, ne3_11, ne3_12, ne4_0, ne4_1, ne4_2, ne4_3, ne4_5, ne4_6, ne4_7, ne4_8, ne4_9, ne4_10, ne4_11, ne4_12, ne5_0, ne5_1, ne5_2, ne5_3, ne5_4, ne5_6, ne5_7, ne5_8, ne5_9, ne5_10, ne5_11, ne5_12, ne6_0, ne6_1, ne6_2, ne6_3, ne6_4, ne6_5, ne6_7, ne6_8, ne6_9, ne6_10, ne6_11, ne6_12, ne7_0, ne7_1, ne7_2, ne7_3, ne7_4, ne7_5, ne7_6, ne7_8, ne7_9, ne7_10, ne7_11, ne7_12, ne8_0, ne8_1, ne8_2, ne8_3, ne8_4, ne8_5, ne8_6, ne8_7, ne8_9, ne8_10, ne8_11, ne8_12, ne9_0, ne9_1, ne9_2, ne9_3, ne9_4, ne9_5, ne9_6, ne9_7, ne9_8, ne9_10, ne9_11, ne9_12, ne10_0, ne10_1, ne10_2, ne10_3, ne10_4, ne10_5, ne10_6, ne10_7, ne10_8, ne10_9, ne10_11, ne10_12, ne11_0, ne11_1, ne11_2, ne11_3, ne11_4, ne11_5, ne11_6, ne11_7, ne11_8, ne11_9, ne11_10, ne11_12, ne12_0, ne12_1, ne12_2, ne12_3, ne12_4, ne12_5, ne12_6, ne12_7, ne12_8, ne12_9, ne12_10, ne12_11, zCall_some, Option.toList, List.cons_append, List.nil_append, zb_0, zb_1, zem, z01, z11, nI_add, ↓reduceIte, not_true_eq_false, not_false_eq_true, n0T, n1F, n11T, true_or, or_true, false_or, i94, r94]
            · skip
              by_cases e5 : what = nI 5
              · subst e5
                unfold endF
                unfold begF at r94
                rcases pl_cases hVR (σ 3) g with ⟨i, h1, h2, h3⟩ | ⟨-, h3⟩
                · have hi : i < 2 ^ 31 := by have := oL_le hVR (σ 3); omega
                  have hst := st_le hVR hTr h1
                  rw [ix_of hi h3, h3, if_neg (nI_n5 hi)] at r94
                  rw [ix_of hi h3, h3, if_neg (nI_n5 hi)]
                  have n5 := nI_n5 (i := stN σ (σ 3) true i) (by omega)
                  simp only [q131_0, q131_1, q131_2, q131_5, q131_8, q131_9, q131_10, q131_11, q131_14, q131_15, q131_64, q131_65, q131_68, q131_70, q131_71, q131_72, q131_73, q131_74, q131_75, q131_78, q131_80, q131_81, q131_82, q131_83, q131_84, q131_85, q131_88, q131_90, q131_91, q131_92, q131_93, q131_94, q131_95, q131_98, q131_99, q131_100, q131_101, q131_102, q131_105, q131_106, q131_107, q131_108, q131_109, q131_112, q131_113, q131_114, q131_116, q131_119, q131_121, q131_124, q131_125, q131_128, q131_129, q131_130, q131_131, q131_134, q131_135, q131_136, q131_137, q131_138, q131_139, q131_142, q131_143, q131_144, q131_145, q131_146, q131_147, q131_150, q131_151, q131_152, q131_155, q131_156, q131_157, q131_158, q131_159, hF, eq_true hv, t1, ne0_1, ne0_2, ne0_3, ne0_4, ne0_5, ne0_6, ne0_7, ne0_8, ne0_9, ne0_10, ne0_11, ne0_12, ne1_0, ne1_2, ne1_3, ne1_4, ne1_5, ne1_6, ne1_7, ne1_8, ne1_9, ne1_10, ne1_11, ne1_12, ne2_0, ne2_1, ne2_3, ne2_4, ne2_5, ne2_6, ne2_7, ne2_8, ne2_9, ne2_10, ne2_11, ne2_12, ne3_0, ne3_1, ne3_2, ne3_4, ne3_5, ne3_6, ne3_7, ne3_8, ne3_9, ne3_10, ne3_11, ne3_12, ne4_0, ne4_1, ne4_2, ne4_3, ne4_5, ne4_6, ne4_7, ne4_8, ne4_9, ne4_10, ne4_11, ne4_12, ne5_0, ne5_1, ne5_2, ne5_3, ne5_4, ne5_6, ne5_7, ne5_8, ne5_9, ne5_10, ne5_11, ne5_12, ne6_0, ne6_1, ne6_2, ne6_3, ne6_4, ne6_5, ne6_7, ne6_8, ne6_9, ne6_10, ne6_11, ne6_12, ne7_0, ne7_1, ne7_2, ne7_3, ne7_4, ne7_5, ne7_6, ne7_8, ne7_9, ne7_10, ne7_11, ne7_12, ne8_0, ne8_1, ne8_2, ne8_3, ne8_4, ne8_5, ne8_6, ne8_7, ne8_9, ne8_10, ne8_11, ne8_12, ne9_0, ne9_1, ne9_2, ne9_3, ne9_4, ne9_5, ne9_6, ne9_7, ne9_8, ne9_10, ne9_11, ne9_12, ne10_0, ne10_1, ne10_2, ne10_3, ne10_4, ne10_5, ne10_6, ne10_7, ne10_8, ne10_9, ne10_11, ne10_12, ne11_0, ne11_1, ne11_2, ne11_3, ne11_4, ne11_5, ne11_6, ne11_7, ne11_8, ne11_9, ne11_10, ne11_12, ne12_0, ne12_1, ne12_2, ne12_3, ne12_4, ne12_5, ne12_6, ne12_7, ne12_8, ne12_9, ne12_10, ne12_11, zCall_some, Option.toList, List.cons_append, List.nil_append, zb_0, zb_1, zem, z01, z11, nI_add, ↓reduceIte, not_true_eq_false, not_false_eq_true, n0T, n1F, n11T, true_or, or_true, false_or, i93, i94, r93, r94, n5]
                · rw [h3, if_pos rfl] at r94
                  rw [h3, if_pos rfl]
                  simp only [q131_0, q131_1, q131_2, q131_5, q131_8, q131_9, q131_10, q131_11, q131_14, q131_15, q131_64, q131_65, q131_68, q131_70, q131_71, q131_72, q131_73, q131_74, q131_75, q131_78, q131_80, q131_81, q131_82, q131_83, q131_84, q131_85, q131_88, q131_90, q131_91, q131_92, q131_93, q131_94, q131_95, q131_98, q131_99, q131_100, q131_101, q131_102, q131_105, q131_106, q131_107, q131_108, q131_109, q131_112, q131_113, q131_114, q131_116, q131_119, q131_121, q131_124, q131_125, q131_128, q131_129, q131_130, q131_131, q131_134, q131_135, q131_136, q131_137, q131_138, q131_139, q131_142, q131_143, q131_144, q131_145, q131_146, q131_147, q131_150, q131_151, q131_152, q131_155, q131_156, q131_157, q131_158, q131_159, hF, eq_true hv, t1, ne0_1, ne0_2, ne0_3, ne0_4, ne0_5, ne0_6, ne0_7, ne0_8, ne0_9, ne0_10, ne0_11, ne0_12, ne1_0, ne1_2, ne1_3, ne1_4, ne1_5, ne1_6, ne1_7, ne1_8, ne1_9, ne1_10, ne1_11, ne1_12, ne2_0, ne2_1, ne2_3, ne2_4, ne2_5, ne2_6, ne2_7, ne2_8, ne2_9, ne2_10, ne2_11, ne2_12, ne3_0, ne3_1, ne3_2, ne3_4, ne3_5, ne3_6, ne3_7, ne3_8, ne3_9, ne3_10, ne3_11, ne3_12, ne4_0, ne4_1, ne4_2, ne4_3, ne4_5, ne4_6, ne4_7, ne4_8, ne4_9, ne4_10, ne4_11, ne4_12, ne5_0, ne5_1, ne5_2, ne5_3, ne5_4, ne5_6, ne5_7, ne5_8, ne5_9, ne5_10, ne5_11, ne5_12, ne6_0, ne6_1, ne6_2, ne6_3, ne6_4, ne6_5, ne6_7, ne6_8, ne6_9, ne6_10, ne6_11, ne6_12, ne7_0, ne7_1, ne7_2, ne7_3, ne7_4, ne7_5, ne7_6, ne7_8, ne7_9, ne7_10, ne7_11, ne7_12, ne8_0, ne8_1, ne8_2, ne8_3, ne8_4, ne8_5, ne8_6, ne8_7, ne8_9, ne8_10, ne8_11, ne8_12, ne9_0, ne9_1, ne9_2, ne9_3, ne9_4, ne9_5, ne9_6, ne9_7, ne9_8, ne9_10, ne9_11, ne9_12, ne10_0, ne10_1, ne10_2, ne10_3, ne10_4, ne10_5, ne10_6, ne10_7, ne10_8, ne10_9, ne10_11, ne10_12, ne11_0, ne11_1, ne11_2, ne11_3, ne11_4, ne11_5, ne11_6, ne11_7, ne11_8, ne11_9, ne11_10, ne11_12, ne12_0, ne12_1, ne12_2, ne12_3, ne12_4, ne12_5, ne12_6, ne12_7, ne12_8, ne12_9, ne12_10, ne12_11, zCall_some, Option.toList, List.cons_append, List.nil_append, zb_0, zb_1, zem, z01, z11, nI_add, ↓reduceIte, not_true_eq_false, not_false_eq_true, n0T, n1F, n11T, true_or, or_true, false_or, i93, i94, r93, r94]
              · skip
                by_cases e6 : what = nI 6
                · subst e6
                  simp only [q131_0, q131_1, q131_2, q131_5, q131_8, q131_9, q131_10, q131_11, q131_14, q131_15, q131_64, q131_65, q131_68, q131_70, q131_71, q131_72, q131_73, q131_74, q131_75, q131_78, q131_80, q131_81, q131_82, q131_83, q131_84, q131_85, q131_88, q131_90, q131_91, q131_92, q131_93, q131_94, q131_95, q131_98, q131_99, q131_100, q131_101, q131_102, q131_105, q131_106, q131_107, q131_108, q131_109, q131_112, q131_113, q131_114, q131_116, q131_119, q131_121, q131_124, q131_125, q131_128, q131_129, q131_130, q131_131, q131_134, q131_135, q131_136, q131_137, q131_138, q131_139, q131_142, q131_143, q131_144, q131_145, q131_146, q131_147, q131_150, q131_151, q131_152, q131_155, q131_156, q131_157, q131_158, q131_159, hF, eq_true hv, t1, ne0_1, ne0_2, ne0_3, ne0_4, ne0_5, ne0_6, ne0_7, ne0_8, ne0_9, ne0_10, ne0_11, ne0_12, ne1_0, ne1_2, ne1_3, ne1_4, ne1_5, ne1_6, ne1_7, ne1_8, ne1_9, ne1_10, ne1_11, ne1_12, ne2_0, ne2_1, ne2_3, ne2_4, ne2_5, ne2_6, ne2_7, ne2_8, ne2_9, ne2_10, ne2_11, ne2_12, ne3_0, ne3_1, ne3_2, ne3_4, ne3_5, ne3_6, ne3_7, ne3_8, ne3_9, ne3_10, ne3_11, ne3_12, ne4_0, ne4_1, ne4_2, ne4_3, ne4_5, ne4_6, ne4_7, ne4_8, ne4_9, ne4_10, ne4_11, ne4_12, ne5_0, ne5_1, ne5_2, ne5_3, ne5_4, ne5_6, ne5_7, ne5_8, ne5_9, ne5_10, ne5_11, ne5_12, ne6_0, ne6_1, ne6_2, ne6_3, ne6_4, ne6_5, ne6_7, ne6_8, ne6_9, ne6_10, ne6_11, ne6_12, ne7_0, ne7_1, ne7_2, ne7_3, ne7_4, ne7_5, ne7_6, ne7_8, ne7_9, ne7_10, ne7_11, ne7_12, ne8_0, ne8_1, ne8_2, ne8_3, ne8_4, ne8_5, ne8_6, ne8_7, ne8_9, ne8_10, ne8_11, ne8_12, ne9_0, ne9_1, ne9_2, ne9_3, ne9_4, ne9_5, ne9_6, ne9_7, ne9_8, ne9_10, ne9_11, ne9_12, ne10_0, ne10_1, ne10_2, ne10_3, ne10_4, ne10_5, ne10_6, ne10_7, ne10_8, ne10_9, ne10_11, ne10_12, ne11_0, ne11_1, ne11_2, ne11_3, ne11_4, ne11_5, ne11_6, ne11_7, ne11_8, ne11_9, ne11_10, ne11_12, ne12_0, ne12_1, ne12_2, ne12_3, ne12_4, ne12_5, ne12_6, ne12_7, ne12_8, ne12_9, ne12_10, ne12_11, zCall_some, Option.toList, List.cons_append, List.nil_append, zb_0, zb_1, zem, z01, z11, nI_add, ↓reduceIte, not_true_eq_false, not_false_eq_true, n0T, n1F, n11T, true_or, or_true, false_or, i95, r95]
                · skip
                  by_cases e7 : what = nI 7
                  · subst e7
                    simp only [q131_0, q131_1, q131_2, q131_5, q131_8, q131_9, q131_10, q131_11, q131_14, q131_15, q131_64, q131_65, q131_68, q131_70, q131_71, q131_72, q131_73, q131_74, q131_75, q131_78, q131_80, q131_81, q131_82, q131_83, q131_84, q131_85, q131_88, q131_90, q131_91, q131_92, q131_93, q131_94, q131_95, q131_98, q131_99, q131_100, q131_101, q131_102, q131_105, q131_106, q131_107, q131_108, q131_109, q131_112, q131_113, q131_114, q131_116, q131_119, q131_121, q131_124, q131_125, q131_128, q131_129, q131_130, q131_131, q131_134, q131_135, q131_136, q131_137, q131_138, q131_139, q131_142, q131_143, q131_144, q131_145, q131_146, q131_147, q131_150, q131_151, q131_152, q131_155, q131_156, q131_157, q131_158, q131_159, hF, eq_true hv, t1, ne0_1, ne0_2, ne0_3, ne0_4, ne0_5, ne0_6, ne0_7, ne0_8, ne0_9, ne0_10, ne0_11, ne0_12, ne1_0, ne1_2, ne1_3, ne1_4, ne1_5, ne1_6, ne1_7, ne1_8, ne1_9, ne1_10, ne1_11, ne1_12, ne2_0, ne2_1, ne2_3, ne2_4, ne2_5, ne2_6, ne2_7, ne2_8, ne2_9, ne2_10, ne2_11, ne2_12, ne3_0, ne3_1, ne3_2, ne3_4, ne3_5, ne3_6, ne3_7, ne3_8, ne3_9, ne3_10, ne3_11, ne3_12, ne4_0, ne4_1, ne4_2, ne4_3, ne4_5, ne4_6, ne4_7, ne4_8, ne4_9, ne4_10, ne4_11, ne4_12, ne5_0, ne5_1, ne5_2, ne5_3, ne5_4, ne5_6, ne5_7, ne5_8, ne5_9, ne5_10, ne5_11, ne5_12, ne6_0, ne6_1, ne6_2, ne6_3, ne6_4, ne6_5, ne6_7, ne6_8, ne6_9, ne6_10, ne6_11, ne6_12, ne7_0, ne7_1, ne7_2, ne7_3, ne7_4, ne7_5, ne7_6, ne7_8, ne7_9, ne7_10, ne7_11, ne7_12, ne8_0, ne8_1, ne8_2, ne8_3, ne8_4, ne8_5, ne8_6, ne8_7, ne8_9, ne8_10, ne8_11, ne8_12, ne9_0, ne9_1, ne9_2, ne9_3, ne9_4, ne9_5, ne9_6, ne9_7, ne9_8, ne9_10, ne9_11, ne9_12, ne10_0, ne10_1, ne10_2, ne10_3, ne10_4, ne10_5, ne10_6, ne10_7, ne10_8, ne10_9, ne10_11, ne10_12, ne11_0, ne11_1, ne11_2, ne11_3, ne11_4, ne11_5, ne11_6, ne11_7, ne11_8, ne11_9, ne11_10, ne11_12, ne12_0, ne12_1, ne12_2, ne12_3, ne12_4, ne12_5, ne12_6, ne12_7, ne12_8, ne12_9, ne12_10, ne12_11, zCall_some, Option.toList, List.cons_append, List.nil_append, zb_0, zb_1, zem, z01, z11, nI_add, ↓reduceIte, not_true_eq_false, not_false_eq_true, n0T, n1F, n11T, true_or, or_true, false_or, m_water hR1 hVR k8 hg]
                  · skip
                    by_cases e8 : what = nI 8
                    · subst e8
                      simp only [q131_0, q131_1, q131_2, q131_5, q131_8, q131_9, q131_10, q131_11, q131_14, q131_15, q131_64, q131_65, q131_68, q131_70, q131_71, q131_72, q131_73, q131_74, q131_75, q131_78, q131_80, q131_81, q131_82, q131_83, q131_84, q131_85, q131_88, q131_90, q131_91, q131_92, q131_93, q131_94, q131_95, q131_98, q131_99, q131_100, q131_101, q131_102, q131_105, q131_106, q131_107, q131_108, q131_109, q131_112, q131_113, q131_114, q131_116, q131_119, q131_121, q131_124, q131_125, q131_128, q131_129, q131_130, q131_131, q131_134, q131_135, q131_136, q131_137, q131_138, q131_139, q131_142, q131_143, q131_144, q131_145, q131_146, q131_147, q131_150, q131_151, q131_152, q131_155, q131_156, q131_157, q131_158, q131_159, hF, eq_true hv, t1, ne0_1, ne0_2, ne0_3, ne0_4, ne0_5, ne0_6, ne0_7, ne0_8, ne0_9, ne0_10, ne0_11, ne0_12, ne1_0, ne1_2, ne1_3, ne1_4, ne1_5, ne1_6, ne1_7, ne1_8, ne1_9, ne1_10, ne1_11, ne1_12, ne2_0, ne2_1, ne2_3, ne2_4, ne2_5, ne2_6, ne2_7, ne2_8, ne2_9, ne2_10, ne2_11, ne2_12, ne3_0, ne3_1, ne3_2, ne3_4, ne3_5, ne3_6, ne3_7, ne3_8, ne3_9, ne3_10, ne3_11, ne3_12, ne4_0, ne4_1, ne4_2, ne4_3, ne4_5, ne4_6, ne4_7, ne4_8, ne4_9, ne4_10, ne4_11, ne4_12, ne5_0, ne5_1, ne5_2, ne5_3, ne5_4, ne5_6, ne5_7, ne5_8, ne5_9, ne5_10, ne5_11, ne5_12, ne6_0, ne6_1, ne6_2, ne6_3, ne6_4, ne6_5, ne6_7, ne6_8, ne6_9, ne6_10, ne6_11, ne6_12, ne7_0, ne7_1, ne7_2, ne7_3, ne7_4, ne7_5, ne7_6, ne7_8, ne7_9, ne7_10, ne7_11, ne7_12, ne8_0, ne8_1, ne8_2, ne8_3, ne8_4, ne8_5, ne8_6, ne8_7, ne8_9, ne8_10, ne8_11, ne8_12, ne9_0, ne9_1, ne9_2, ne9_3, ne9_4, ne9_5, ne9_6, ne9_7, ne9_8, ne9_10, ne9_11, ne9_12, ne10_0, ne10_1, ne10_2, ne10_3, ne10_4, ne10_5, ne10_6, ne10_7, ne10_8, ne10_9, ne10_11, ne10_12, ne11_0, ne11_1, ne11_2, ne11_3, ne11_4, ne11_5, ne11_6, ne11_7, ne11_8, ne11_9, ne11_10, ne11_12, ne12_0, ne12_1, ne12_2, ne12_3, ne12_4, ne12_5, ne12_6, ne12_7, ne12_8, ne12_9, ne12_10, ne12_11, zCall_some, Option.toList, List.cons_append, List.nil_append, zb_0, zb_1, zem, z01, z11, nI_add, ↓reduceIte, not_true_eq_false, not_false_eq_true, n0T, n1F, n11T, true_or, or_true, false_or, i92, r92]
                    · skip
                      simp only [q131_0, q131_1, q131_2, q131_5, q131_8, q131_9, q131_10, q131_11, q131_14, q131_15, q131_64, q131_65, q131_68, q131_70, q131_71, q131_72, q131_73, q131_74, q131_75, q131_78, q131_80, q131_81, q131_82, q131_83, q131_84, q131_85, q131_88, q131_90, q131_91, q131_92, q131_93, q131_94, q131_95, q131_98, q131_99, q131_100, q131_101, q131_102, q131_105, q131_106, q131_107, q131_108, q131_109, q131_112, q131_113, q131_114, q131_116, q131_119, q131_121, q131_124, q131_125, q131_128, q131_129, q131_130, q131_131, q131_134, q131_135, q131_136, q131_137, q131_138, q131_139, q131_142, q131_143, q131_144, q131_145, q131_146, q131_147, q131_150, q131_151, q131_152, q131_155, q131_156, q131_157, q131_158, q131_159, hF, eq_true hv, t1, ne0_1, ne0_2, ne0_3, ne0_4, ne0_5, ne0_6, ne0_7, ne0_8, ne0_9, ne0_10, ne0_11, ne0_12, ne1_0, ne1_2, ne1_3, ne1_4, ne1_5, ne1_6, ne1_7, ne1_8, ne1_9, ne1_10, ne1_11, ne1_12, ne2_0, ne2_1, ne2_3, ne2_4, ne2_5, ne2_6, ne2_7, ne2_8, ne2_9, ne2_10, ne2_11, ne2_12, ne3_0, ne3_1, ne3_2, ne3_4, ne3_5, ne3_6, ne3_7, ne3_8, ne3_9, ne3_10, ne3_11, ne3_12, ne4_0, ne4_1, ne4_2, ne4_3, ne4_5, ne4_6, ne4_7, ne4_8, ne4_9, ne4_10, ne4_11, ne4_12, ne5_0, ne5_1, ne5_2, ne5_3, ne5_4, ne5_6, ne5_7, ne5_8, ne5_9, ne5_10, ne5_11, ne5_12, ne6_0, ne6_1, ne6_2, ne6_3, ne6_4, ne6_5, ne6_7, ne6_8, ne6_9, ne6_10, ne6_11, ne6_12, ne7_0, ne7_1, ne7_2, ne7_3, ne7_4, ne7_5, ne7_6, ne7_8, ne7_9, ne7_10, ne7_11, ne7_12, ne8_0, ne8_1, ne8_2, ne8_3, ne8_4, ne8_5, ne8_6, ne8_7, ne8_9, ne8_10, ne8_11, ne8_12, ne9_0, ne9_1, ne9_2, ne9_3, ne9_4, ne9_5, ne9_6, ne9_7, ne9_8, ne9_10, ne9_11, ne9_12, ne10_0, ne10_1, ne10_2, ne10_3, ne10_4, ne10_5, ne10_6, ne10_7, ne10_8, ne10_9, ne10_11, ne10_12, ne11_0, ne11_1, ne11_2, ne11_3, ne11_4, ne11_5, ne11_6, ne11_7, ne11_8, ne11_9, ne11_10, ne11_12, ne12_0, ne12_1, ne12_2, ne12_3, ne12_4, ne12_5, ne12_6, ne12_7, ne12_8, ne12_9, ne12_10, ne12_11, zCall_some, Option.toList, List.cons_append, List.nil_append, zb_0, zb_1, zem, z01, z11, nI_add, ↓reduceIte, not_true_eq_false, not_false_eq_true, n0T, n1F, n11T, true_or, or_true, false_or, e0, e1, e2, e3, e4, e5, e6, e7, e8]
  · refine ⟨f, a, ?_, ⟨fun _ _ => rfl, fun _ _ _ _ => rfl, fun _ _ => rfl⟩⟩
    rw [if_neg hv]
    simp only [q131_0, q131_1, q131_2, q131_5, q131_8, q131_9, q131_10, q131_11, q131_14, q131_15, q131_64, q131_65, q131_68, q131_70, q131_71, q131_72, q131_73, q131_74, q131_75, q131_78, q131_80, q131_81, q131_82, q131_83, q131_84, q131_85, q131_88, q131_90, q131_91, q131_92, q131_93, q131_94, q131_95, q131_98, q131_99, q131_100, q131_101, q131_102, q131_105, q131_106, q131_107, q131_108, q131_109, q131_112, q131_113, q131_114, q131_116, q131_119, q131_121, q131_124, q131_125, q131_128, q131_129, q131_130, q131_131, q131_134, q131_135, q131_136, q131_137, q131_138, q131_139, q131_142, q131_143, q131_144, q131_145, q131_146, q131_147, q131_150, q131_151, q131_152, q131_155, q131_156, q131_157, q131_158, q131_159, hF, eq_false hv, zCall_some, Option.toList, List.cons_append, List.nil_append, zb_0, zb_1, zem, z01, z11, nI_add, ↓reduceIte, not_true_eq_false, not_false_eq_true, n0T, n1F, n11T, true_or, or_true, false_or]
theorem y_turn {sc : Int32 × (Int32 → Int32)} {f : zF} {a : zA} {j : zJ} {d : Nat} {σ : Nat → Nat} {k : Int32} (hR : MR σ a) (hV : VS σ) : ∃ (f' : zF) (a' : zA), cf sc (d + 7) 140 [.ref 85, .int k] f a j = some (some (.int (sTurn σ k)), f', a', j) ∧ MF f f' a a' := by
  have hVR := hV.1.1
  have hn := hVR.1
  have hl := oL_le hVR (σ 3)
  obtain ⟨f1, a1, t1, t2, t3⟩ := m_now (sc := sc) (d := d) (f := f) (j := j) hR hV
  refine ⟨f1, a1, ?_, t3⟩
  obtain ⟨⟨k1, k2, k3, k4, k5, k6, k7⟩, k8, k9⟩ := t2
  rw [en140]
  unfold sTurn
  by_cases hv : zHas k (oL σ (σ 3)).length
  · obtain ⟨g, hg, rfl⟩ := zHas_of (by omega) hv
    have ec : (nI g).toNatClampNeg = g := nI_clamp (by omega)
    have ix := ix90 (q := g) (by omega)
    have er := k5 g hg
    rw [if_pos hv, ec]
    simp only [q140_0, q140_1, q140_4, q140_5, q140_6, q140_7, q140_8, q140_11, q140_12, q140_13, q140_14, q140_17, q140_20, q140_21, q140_24, q140_25, q140_26, q140_29, q140_30, t1, k1, inHas (show (oL σ (σ 3)).length ≤ 1000 by omega), eq_true hv, ix, er, zCall_some, Option.toList, List.cons_append, List.nil_append, zb_0, zb_1, zem, z01, z11, nI_add, ↓reduceIte, not_true_eq_false, not_false_eq_true, n0T, n1F, n11T, true_or, or_true, false_or]
  · rw [if_neg hv]
    simp only [q140_0, q140_1, q140_4, q140_5, q140_6, q140_7, q140_8, q140_11, q140_12, q140_13, q140_14, q140_17, q140_20, q140_21, q140_24, q140_25, q140_26, q140_29, q140_30, t1, k1, inHas (show (oL σ (σ 3)).length ≤ 1000 by omega), eq_false hv, zCall_some, Option.toList, List.cons_append, List.nil_append, zb_0, zb_1, zem, z01, z11, nI_add, ↓reduceIte, not_true_eq_false, not_false_eq_true, n0T, n1F, n11T, true_or, or_true, false_or]
theorem y_lag {sc : Int32 × (Int32 → Int32)} {f : zF} {a : zA} {j : zJ} {d : Nat} {σ : Nat → Nat} {k : Int32} (hR : MR σ a) (hV : VS σ) : ∃ (f' : zF) (a' : zA), cf sc (d + 7) 141 [.ref 85, .int k] f a j = some (some (.int (sLag σ k)), f', a', j) ∧ MF f f' a a' := by
  have hVR := hV.1.1
  have hn := hVR.1
  have hl := oL_le hVR (σ 3)
  obtain ⟨f1, a1, t1, t2, t3⟩ := m_now (sc := sc) (d := d) (f := f) (j := j) hR hV
  refine ⟨f1, a1, ?_, t3⟩
  obtain ⟨⟨k1, k2, k3, k4, k5, k6, k7⟩, k8, k9⟩ := t2
  rw [en141]
  unfold sLag
  by_cases hv : zHas k (oL σ (σ 3)).length
  · obtain ⟨g, hg, rfl⟩ := zHas_of (by omega) hv
    have ec : (nI g).toNatClampNeg = g := nI_clamp (by omega)
    have ix := ix91 (q := g) (by omega)
    have er := k6 g hg
    rw [if_pos hv, ec]
    simp only [q141_0, q141_1, q141_4, q141_5, q141_6, q141_7, q141_8, q141_11, q141_12, q141_13, q141_14, q141_17, q141_20, q141_21, q141_24, q141_25, q141_26, q141_29, q141_30, t1, k1, inHas (show (oL σ (σ 3)).length ≤ 1000 by omega), eq_true hv, ix, er, zCall_some, Option.toList, List.cons_append, List.nil_append, zb_0, zb_1, zem, z01, z11, nI_add, ↓reduceIte, not_true_eq_false, not_false_eq_true, n0T, n1F, n11T, true_or, or_true, false_or]
  · rw [if_neg hv]
    simp only [q141_0, q141_1, q141_4, q141_5, q141_6, q141_7, q141_8, q141_11, q141_12, q141_13, q141_14, q141_17, q141_20, q141_21, q141_24, q141_25, q141_26, q141_29, q141_30, t1, k1, inHas (show (oL σ (σ 3)).length ≤ 1000 by omega), eq_false hv, zCall_some, Option.toList, List.cons_append, List.nil_append, zb_0, zb_1, zem, z01, z11, nI_add, ↓reduceIte, not_true_eq_false, not_false_eq_true, n0T, n1F, n11T, true_or, or_true, false_or]
theorem y_line {sc : Int32 × (Int32 → Int32)} {f : zF} {a : zA} {j : zJ} {d : Nat} {σ : Nat → Nat} {k : Int32} (hR : MR σ a) (hV : VS σ) : ∃ a' : zA, cf sc (d + 2) 142 [.ref 85, .int k] f a j = some (some (.int (sLine σ k)), f, a', j) ∧ ∀ k, k ≠ 89 → a' k = a k := by
  have hVR := hV.1.1
  have hn := hVR.1
  obtain ⟨a1, t1, t2, t3⟩ := m_lines (sc := sc) (d := d) (f := f) (j := j) hR hVR
  refine ⟨a1, ?_, t3⟩
  have ix0 : zIx 21 86 (nI 0) := ix86 (by omega)
  have e0 := (hR.of (t3 86 (by omega))) 0 (by omega)
  rw [en142]
  unfold sLine
  by_cases hv : zHas k (σ 0)
  · obtain ⟨g, hg, rfl⟩ := zHas_of (by omega) hv
    have ec : (nI g).toNatClampNeg = g := nI_clamp (by omega)
    have ix : zIx 21 89 (nI g) := ix89 (by omega)
    have er : a1 89 (nI g) = nI (lnA σ g) := t2 g (by rw [ln_len hVR]; exact hg)
    rw [if_pos hv, ec]
    simp only [q142_0, q142_1, q142_4, q142_5, q142_6, q142_7, q142_8, q142_11, q142_12, q142_13, q142_14, q142_15, q142_16, q142_19, q142_22, q142_23, q142_26, q142_27, q142_28, q142_31, q142_32, t1, ix0, e0, inHas (show σ 0 ≤ 1000 by omega), eq_true hv, ix, er, zCall_some, Option.toList, List.cons_append, List.nil_append, zb_0, zb_1, zem, z01, z11, nI_add, ↓reduceIte, not_true_eq_false, not_false_eq_true, n0T, n1F, n11T, true_or, or_true, false_or]
  · rw [if_neg hv]
    simp only [q142_0, q142_1, q142_4, q142_5, q142_6, q142_7, q142_8, q142_11, q142_12, q142_13, q142_14, q142_15, q142_16, q142_19, q142_22, q142_23, q142_26, q142_27, q142_28, q142_31, q142_32, t1, ix0, e0, inHas (show σ 0 ≤ 1000 by omega), eq_false hv, zCall_some, Option.toList, List.cons_append, List.nil_append, zb_0, zb_1, zem, z01, z11, nI_add, ↓reduceIte, not_true_eq_false, not_false_eq_true, n0T, n1F, n11T, true_or, or_true, false_or]
theorem y_who {sc : Int32 × (Int32 → Int32)} {f : zF} {a : zA} {j : zJ} {d : Nat} {σ : Nat → Nat} {t : Int32} (hR : MR σ a) (hV : VS σ) : ∃ (r : Int32) (f' : zF) (a' : zA), cf sc (d + 7) 143 [.ref 85, .int t] f a j = some (some (.int r), f', a', j) ∧ (if zBtw t 0 95 then WhoP σ t.toNatClampNeg r else r = -2) ∧ MF f f' a a' := by
  have hVR := hV.1.1
  have hn := hVR.1
  have hw : σ 3 ≤ 1010 := by have := hV.1.2.2.2.2; omega
  have hTr : true = true → TrOK σ (σ 3) := fun _ => hV.2.1
  rw [en143]
  by_cases hv : zBtw t 0 95
  · obtain ⟨q, q1, q2, rfl⟩ := zBtw_of (by omega) (by omega) hv
    obtain ⟨f1, a1, t1, t2, t3⟩ := m_now (sc := sc) (d := d) (f := f) (j := j) hR hV
    have hR1 := t3.r hR
    have ix0 : zIx 21 86 (nI 0) := ix86 (by omega)
    have e0 := hR1 0 (by omega)
    obtain ⟨-, k8, k9⟩ := t2
    have key : ∀ m g, g + m = σ 0 → (∀ i, i < (oL σ (σ 3)).length → (oL σ (σ 3)).getD i 0 < g → ¬ (stN σ (σ 3) true i ≤ q ∧ q < stN σ (σ 3) true i + hvOf σ (σ 3) true ((oL σ (σ 3)).getD i 0))) → ∃ r : Int32, rn sc (cf sc (d + 6)) 143 21 [.ref 85, .int (nI q), .int (nI g)] [] f1 a1 j = some (some (.int r), f1, a1, j) ∧ WhoP σ q r := by
      intro m
      induction m with
      | zero =>
        intro g hg hno
        have c1 : nI (σ 0) ≤ nI g := nI_le (by omega) (by omega)
        refine ⟨-5, ?_, Or.inr ⟨fun i hi => hno i hi (by have := oL_lt hVR hi; omega), rfl⟩⟩
        simp only [q143_21, q143_22, q143_23, q143_26, q143_27, q143_28, q143_77, q143_79, ix0, e0, c1, zCall_some, Option.toList, List.cons_append, List.nil_append, zb_0, zb_1, zem, z01, z11, nI_add, ↓reduceIte, not_true_eq_false, not_false_eq_true, n0T, n1F, n11T, true_or, or_true, false_or]
      | succ m ih =>
        intro g hg hno
        have hgn : g < σ 0 := by omega
        have c1 : ¬ nI (σ 0) ≤ nI g := nI_ge hgn (by omega)
        have i93 : zIx 21 93 (nI g) := ix93 (by omega)
        have i94 : zIx 21 94 (nI g) := ix94 (by omega)
        have r93 := k8 g hgn
        have r94 := (k9 g hgn).1
        have h97 := hv_97 hVR hTr hgn
        unfold begF at r94
        rcases pl_cases hVR (σ 3) g with ⟨i, h1, h2, h3⟩ | ⟨h1, h3⟩
        · have hi : i < 2 ^ 31 := by have := oL_le hVR (σ 3); omega
          have hst := st_le hVR hTr h1
          rw [ix_of hi h3, h3, if_neg (nI_n5 hi)] at r94
          have n5 := nI_n5 (i := stN σ (σ 3) true i) (by omega)
          by_cases w1 : stN σ (σ 3) true i ≤ q
          · have x1 : ¬ nI q < nI (stN σ (σ 3) true i) := nI_nlt w1 (by omega)
            by_cases w2 : q < stN σ (σ 3) true i + hvOf σ (σ 3) true g
            · have x2 : ¬ nI (stN σ (σ 3) true i + hvOf σ (σ 3) true g) ≤ nI q := nI_ge w2 (by omega)
              refine ⟨nI g, ?_, Or.inl ⟨i, h1, w1, by rw [h2]; exact w2, by rw [h2]⟩⟩
              rw [q143_21]
              simp only [q143_0, q143_1, q143_2, q143_3, q143_6, q143_9, q143_12, q143_14, q143_15, q143_16, q143_19, q143_20, q143_22, q143_23, q143_26, q143_27, q143_28, q143_31, q143_32, q143_35, q143_36, q143_37, q143_39, q143_42, q143_43, q143_44, q143_47, q143_48, q143_49, q143_52, q143_53, q143_54, q143_57, q143_58, q143_59, q143_60, q143_63, q143_64, q143_65, q143_66, q143_69, q143_70, q143_71, q143_74, q143_77, q143_79, ix0, e0, c1, i93, i94, r93, r94, n5, x1, x2, zCall_some, Option.toList, List.cons_append, List.nil_append, zb_0, zb_1, zem, z01, z11, nI_add, ↓reduceIte, not_true_eq_false, not_false_eq_true, n0T, n1F, n11T, true_or, or_true, false_or]
            · have x2 : nI (stN σ (σ 3) true i + hvOf σ (σ 3) true g) ≤ nI q := nI_le (by omega) (by omega)
              obtain ⟨r, g1, g2⟩ := ih (g + 1) (by omega) (fun i' hi' hlt => by
                by_cases e : (oL σ (σ 3)).getD i' 0 = g
                · have : i' = i := getD_inj (oS_nd hVR (σ 3) _ (Nat.le_refl _)) hi' h1 (e.trans h2.symm)
                  subst this
                  rw [e]
                  exact fun z => w2 z.2
                · exact hno i' hi' (by omega))
              refine ⟨r, ?_, g2⟩
              rw [← g1, q143_21]
              simp only [q143_0, q143_1, q143_2, q143_3, q143_6, q143_9, q143_12, q143_14, q143_15, q143_16, q143_19, q143_20, q143_22, q143_23, q143_26, q143_27, q143_28, q143_31, q143_32, q143_35, q143_36, q143_37, q143_39, q143_42, q143_43, q143_44, q143_47, q143_48, q143_49, q143_52, q143_53, q143_54, q143_57, q143_58, q143_59, q143_60, q143_63, q143_64, q143_65, q143_66, q143_69, q143_70, q143_71, q143_74, q143_77, q143_79, ix0, e0, c1, i93, i94, r93, r94, n5, x1, x2, zCall_some, Option.toList, List.cons_append, List.nil_append, zb_0, zb_1, zem, z01, z11, nI_add, ↓reduceIte, not_true_eq_false, not_false_eq_true, n0T, n1F, n11T, true_or, or_true, false_or]
          · have x1 : nI q < nI (stN σ (σ 3) true i) := nI_lt (by omega) (by omega)
            obtain ⟨r, g1, g2⟩ := ih (g + 1) (by omega) (fun i' hi' hlt => by
              by_cases e : (oL σ (σ 3)).getD i' 0 = g
              · have : i' = i := getD_inj (oS_nd hVR (σ 3) _ (Nat.le_refl _)) hi' h1 (e.trans h2.symm)
                subst this
                exact fun z => w1 z.1
              · exact hno i' hi' (by omega))
            refine ⟨r, ?_, g2⟩
            rw [← g1, q143_21]
            simp only [q143_0, q143_1, q143_2, q143_3, q143_6, q143_9, q143_12, q143_14, q143_15, q143_16, q143_19, q143_20, q143_22, q143_23, q143_26, q143_27, q143_28, q143_31, q143_32, q143_35, q143_36, q143_37, q143_39, q143_42, q143_43, q143_44, q143_47, q143_48, q143_49, q143_52, q143_53, q143_54, q143_57, q143_58, q143_59, q143_60, q143_63, q143_64, q143_65, q143_66, q143_69, q143_70, q143_71, q143_74, q143_77, q143_79, ix0, e0, c1, i94, r94, n5, x1, zCall_some, Option.toList, List.cons_append, List.nil_append, zb_0, zb_1, zem, z01, z11, nI_add, ↓reduceIte, not_true_eq_false, not_false_eq_true, n0T, n1F, n11T, true_or, or_true, false_or]
        · rw [h3, if_pos rfl] at r94
          obtain ⟨r, g1, g2⟩ := ih (g + 1) (by omega) (fun i' hi' hlt => by
            by_cases e : (oL σ (σ 3)).getD i' 0 = g
            · exact absurd (by rw [← e]; exact getD_mem hi') h1
            · exact hno i' hi' (by omega))
          refine ⟨r, ?_, g2⟩
          rw [← g1, q143_21]
          simp only [q143_0, q143_1, q143_2, q143_3, q143_6, q143_9, q143_12, q143_14, q143_15, q143_16, q143_19, q143_20, q143_22, q143_23, q143_26, q143_27, q143_28, q143_31, q143_32, q143_35, q143_36, q143_37, q143_39, q143_42, q143_43, q143_44, q143_47, q143_48, q143_49, q143_52, q143_53, q143_54, q143_57, q143_58, q143_59, q143_60, q143_63, q143_64, q143_65, q143_66, q143_69, q143_70, q143_71, q143_74, q143_77, q143_79, ix0, e0, c1, i94, r94, zCall_some, Option.toList, List.cons_append, List.nil_append, zb_0, zb_1, zem, z01, z11, nI_add, ↓reduceIte, not_true_eq_false, not_false_eq_true, n0T, n1F, n11T, true_or, or_true, false_or]
    obtain ⟨r, g1, g2⟩ := key (σ 0) 0 (by omega) (fun i _ hlt => absurd hlt (Nat.not_lt_zero _))
    refine ⟨r, f1, a1, ?_, by rw [if_pos hv, nI_clamp (n := q) (by omega)]; exact g2, t3⟩
    simp only [q143_0, q143_1, q143_2, q143_3, q143_6, q143_9, q143_12, q143_14, q143_15, q143_16, q143_19, q143_20, q143_22, q143_23, q143_26, q143_27, q143_28, q143_31, q143_32, q143_35, q143_36, q143_37, q143_39, q143_42, q143_43, q143_44, q143_47, q143_48, q143_49, q143_52, q143_53, q143_54, q143_57, q143_58, q143_59, q143_60, q143_63, q143_64, q143_65, q143_66, q143_69, q143_70, q143_71, q143_74, q143_77, q143_79, in095, eq_true hv, t1, zCall_some, Option.toList, List.cons_append, List.nil_append, zb_0, zb_1, zem, z01, z11, nI_add, ↓reduceIte, not_true_eq_false, not_false_eq_true, n0T, n1F, n11T, true_or, or_true, false_or]
    exact g1
  · refine ⟨-2, f, a, ?_, by rw [if_neg hv], ⟨fun _ _ => rfl, fun _ _ _ _ => rfl, fun _ _ => rfl⟩⟩
    simp only [q143_0, q143_1, q143_2, q143_3, q143_6, q143_9, q143_12, q143_14, q143_15, q143_16, q143_19, q143_20, q143_22, q143_23, q143_26, q143_27, q143_28, q143_31, q143_32, q143_35, q143_36, q143_37, q143_39, q143_42, q143_43, q143_44, q143_47, q143_48, q143_49, q143_52, q143_53, q143_54, q143_57, q143_58, q143_59, q143_60, q143_63, q143_64, q143_65, q143_66, q143_69, q143_70, q143_71, q143_74, q143_77, q143_79, in095, eq_false hv, zCall_some, Option.toList, List.cons_append, List.nil_append, zb_0, zb_1, zem, z01, z11, nI_add, ↓reduceIte, not_true_eq_false, not_false_eq_true, n0T, n1F, n11T, true_or, or_true, false_or]
theorem y_shared {sc : Int32 × (Int32 → Int32)} {f : zF} {a : zA} {j : zJ} {d : Nat} {σ : Nat → Nat} {n v : Int32} (hR : MR σ a) (hV : VS σ) : ∃ a' : zA, cf sc (d + 3) 144 [.ref 85, .int n, .int v] f a j = some (some (.int (sShared σ n v)), f, a', j) ∧ ∀ k, k ≠ 96 → k ≠ 97 → a' k = a k := by
  have hVR := hV.1.1
  have hn := hVR.1
  have hF := m_isField (sc := sc) (d := d) (f := f) (j := j) (v := v) hR hn
  rw [en144]
  unfold sShared
  by_cases hv : zHas v (σ 0)
  · rw [if_pos hv]
    by_cases hb : zBtw n 0 999
    · rw [if_pos hb]
      obtain ⟨g, hg, rfl⟩ := zHas_of (by omega) hv
      obtain ⟨q, q1, q2, rfl⟩ := zBtw_of (by omega) (by omega) hb
      rw [nI_clamp (n := g) (by omega), nI_clamp (n := q) (by omega)]
      have hAF := m_allFields (sc := sc) (d := d + 1) (f := f) (j := j) hR
      obtain ⟨a1, s1, s2, s3⟩ := m_shares (sc := sc) (d := d + 1) (f := f) (j := j) (w := q) (S := alB σ) (x := (nI 1 <<< (nI (σ 0) &&& 31)) - nI 1) hR hVR (by omega) (fun g hg => by rw [bt_all _ hn g (by omega)]; rfl)
      have i96 : zIx 21 96 (nI g) := ix96 (by omega)
      refine ⟨a1, ?_, s3⟩
      simp only [q144_0, q144_1, q144_2, q144_5, q144_8, q144_9, q144_10, q144_11, q144_12, q144_13, q144_16, q144_19, q144_22, q144_24, q144_25, q144_26, q144_27, q144_28, q144_31, q144_34, q144_35, q144_38, q144_39, q144_40, hF, in0999, eq_true hv, eq_true hb, hAF, s1, i96, s2 g hg, zCall_some, Option.toList, List.cons_append, List.nil_append, zb_0, zb_1, zem, z01, z11, nI_add, ↓reduceIte, not_true_eq_false, not_false_eq_true, n0T, n1F, n11T, true_or, or_true, false_or]
    · rw [if_neg hb]
      refine ⟨a, ?_, fun _ _ _ => rfl⟩
      simp only [q144_0, q144_1, q144_2, q144_5, q144_8, q144_9, q144_10, q144_11, q144_12, q144_13, q144_16, q144_19, q144_22, q144_24, q144_25, q144_26, q144_27, q144_28, q144_31, q144_34, q144_35, q144_38, q144_39, q144_40, hF, in0999, eq_true hv, eq_false hb, zCall_some, Option.toList, List.cons_append, List.nil_append, zb_0, zb_1, zem, z01, z11, nI_add, ↓reduceIte, not_true_eq_false, not_false_eq_true, n0T, n1F, n11T, true_or, or_true, false_or]
  · rw [if_neg hv]
    refine ⟨a, ?_, fun _ _ _ => rfl⟩
    simp only [q144_0, q144_1, q144_2, q144_5, q144_8, q144_9, q144_10, q144_11, q144_12, q144_13, q144_16, q144_19, q144_22, q144_24, q144_25, q144_26, q144_27, q144_28, q144_31, q144_34, q144_35, q144_38, q144_39, q144_40, hF, eq_false hv, zCall_some, Option.toList, List.cons_append, List.nil_append, zb_0, zb_1, zem, z01, z11, nI_add, ↓reduceIte, not_true_eq_false, not_false_eq_true, n0T, n1F, n11T, true_or, or_true, false_or]
theorem VS.hr {σ : Nat → Nat} (hV : VS σ) {h : Nat} (h97 : h ≤ 97) : VR (zup σ 1 h) := hV.1.1.up (fun i q _ _ => zup_ne q) (by rw [zup_eq]; exact h97)
theorem MR.back {σ : Nat → Nat} {a : zA} {p x : Nat} (h : MR (zup σ p x) a) (hp : p < 140) : MR σ (zuA a 86 (nI p) (nI (σ p))) := (h.set (x := σ p) hp).ext (fun i _ => by
  by_cases e : i = p
  · rw [e, zup_eq]
  · rw [zup_ne e, zup_ne e])
theorem m_less {sc : Int32 × (Int32 → Int32)} {f : zF} {a : zA} {j : zJ} {d : Nat} {σ : Nat → Nat} (hR : MR σ a) (hV : VS σ) : ∃ (f' : zF) (a' : zA), cf sc (d + 6) 145 [.ref 85] f a j = some (some (.int (lsB σ)), f', a', j) ∧ MR σ a' ∧ MFW f f' a a' := by
  have hVR := hV.1.1
  have hn := hVR.1
  have hw : σ 3 ≤ 1010 := by have := hV.1.2.2.2.2; omega
  have hTr : true = true → TrOK σ (σ 3) := fun _ => hV.2.1
  have h96 := hV.1.2.2.1
  have hr := hV.1.2.2.2.1
  have ix0 : zIx 21 86 (nI 0) := ix86 (by omega)
  have ix1 : zIx 21 86 (nI 1) := ix86 (by omega)
  have ix3 : zIx 21 86 (nI 3) := ix86 (by omega)
  obtain ⟨f1, a1, t1, t2, t3⟩ := m_tellsF (sc := sc) (d := d) (f := f) (j := j) (w := σ 3) hR hVR hw hr
  have hR1 := t3.r hR
  have e3 := hR 3 (by omega)
  obtain ⟨-, k8, -⟩ := t2
  have key := zLoopP (n := σ 0) (g := fun s : (Nat × zA) => rn sc (cf sc (d + 5)) 145 13 [.ref 85, .int (nI s.1), .null] [] f1 s.2 j) (P := fun i s => s.1 = i ∧ (∀ g, g < i → s.2 103 (nI g) = nI (hvOf σ (σ 3) false g)) ∧ ∀ k, k ≠ 103 → s.2 k = a1 k) (by
    intro i s hi hP
    obtain ⟨i', a2⟩ := s
    obtain ⟨rfl, g1, g2⟩ := hP
    dsimp only at g1 g2 hi
    have e0 := (hR1.of (g2 86 (by omega))) 0 (by omega)
    have c1 : ¬ nI (σ 0) ≤ nI i' := nI_ge hi (by omega)
    have i93 : zIx 21 93 (nI i') := ix93 (by omega)
    have i103 : zIx 21 103 (nI i') := ix103 (by omega)
    have r93 : a2 93 (nI i') = nI (hvOf σ (σ 3) false i') := by rw [g2 93 (by omega)]; exact k8 i' hi
    refine ⟨(i' + 1, zuA a2 103 (nI i') (nI (hvOf σ (σ 3) false i'))), ⟨rfl, fun g hg => ?_, fun k hk => (zuA_nk hk).trans (g2 k hk)⟩, ?_⟩
    · dsimp only
      by_cases e : g = i'
      · rw [e]; exact zuA_eq
      · rw [zuA_ni (nI_ne (by omega) (by omega) e)]; exact g1 g (by omega)
    · dsimp only
      rw [q145_13]
      simp only [q145_14, q145_15, q145_18, q145_19, q145_20, q145_23, q145_24, q145_27, q145_28, q145_29, q145_32, q145_33, q145_34, q145_35, q145_38, ix0, e0, c1, i93, i103, r93, zCall_some, Option.toList, List.cons_append, List.nil_append, zb_0, zb_1, zem, z01, z11, nI_add, ↓reduceIte, not_true_eq_false, not_false_eq_true, n0T, n1F, n11T, true_or, or_true, false_or]) (0, a1) ⟨rfl, fun g hg => by omega, fun _ _ => rfl⟩
  obtain ⟨⟨i, a2⟩, ⟨hi, g1, g2⟩, e⟩ := key
  dsimp only at g1 g2 hi e
  rw [hi] at e
  have hR2 : MR σ a2 := hR1.of (g2 86 (by omega))
  have e0 := hR2 0 (by omega)
  have e1 := hR2 1 (by omega)
  have hR3 : MR (zup σ 1 (σ 1 + 1)) (zuA a2 86 (nI 1) (nI (σ 1 + 1))) := hR2.set (by omega)
  have hVu : VR (zup σ 1 (σ 1 + 1)) := hV.hr (by omega)
  have z0 : zup σ 1 (σ 1 + 1) 0 = σ 0 := zup_ne (by omega)
  have e33 := hR3 3 (by omega)
  rw [zup_ne (by omega)] at e33
  obtain ⟨f4, a4, u1, u2, u3⟩ := m_tellsF (sc := sc) (d := d) (f := f1) (j := j) (w := σ 3) hR3 hVu hw (by rw [zup_ne (by omega)]; exact hr)
  have hR4 := u3.r hR3
  have e41 := hR4 1 (by omega)
  rw [zup_eq] at e41
  have es : nI (σ 1 + 1) - nI 1 = nI (σ 1) := pk_sub (by omega)
  have hR5 : MR σ (zuA a4 86 (nI 1) (nI (σ 1))) := hR4.back (by omega)
  obtain ⟨-, m8, -⟩ := u2
  have e50 := hR5 0 (by omega)
  have key2 := zLoop (n := σ 0) (g := fun i => rn sc (cf sc (d + 5)) 145 76 [.ref 85, .int (btS (fun g => decide (hvOf (zup σ 1 (σ 1 + 1)) (σ 3) false g < hvOf σ (σ 3) false g)) i), .int (nI i)] [] f4 (zuA a4 86 (nI 1) (nI (σ 1))) j) (by
    intro i hi
    have c1 : ¬ nI (σ 0) ≤ nI i := nI_ge hi (by omega)
    have i93 : zIx 21 93 (nI i) := ix93 (by omega)
    have i103 : zIx 21 103 (nI i) := ix103 (by omega)
    have r93 : zuA a4 86 (nI 1) (nI (σ 1)) 93 (nI i) = nI (hvOf (zup σ 1 (σ 1 + 1)) (σ 3) false i) := by rw [zuA_nk (by omega)]; exact m8 i (by rw [z0]; exact hi)
    have r103 : zuA a4 86 (nI 1) (nI (σ 1)) 103 (nI i) = nI (hvOf σ (σ 3) false i) := by rw [zuA_nk (by omega), u3.2.2 103 (by omega), zuA_nk (by omega)]; exact g1 i hi
    have b1 := hv_97 hVu (w := σ 3) (tr := false) (fun q => by cases q) (g := i) (by rw [z0]; exact hi)
    have b2 := hv_97 hVR (w := σ 3) (tr := false) (fun q => by cases q) hi
    rw [q145_76, btS_s]
    by_cases h : hvOf (zup σ 1 (σ 1 + 1)) (σ 3) false i < hvOf σ (σ 3) false i
    · have q1 : ¬ nI (hvOf σ (σ 3) false i) ≤ nI (hvOf (zup σ 1 (σ 1 + 1)) (σ 3) false i) := nI_ge h (by omega)
      rw [if_pos (decide_eq_true h)]
      simp only [q145_0, q145_1, q145_2, q145_5, q145_6, q145_7, q145_8, q145_11, q145_12, q145_14, q145_15, q145_18, q145_19, q145_20, q145_23, q145_24, q145_27, q145_28, q145_29, q145_32, q145_33, q145_34, q145_35, q145_38, q145_41, q145_42, q145_45, q145_46, q145_47, q145_48, q145_49, q145_50, q145_51, q145_52, q145_53, q145_56, q145_57, q145_58, q145_59, q145_62, q145_63, q145_66, q145_67, q145_68, q145_69, q145_70, q145_71, q145_72, q145_73, q145_74, q145_75, q145_77, q145_78, q145_81, q145_82, q145_83, q145_86, q145_87, q145_90, q145_91, q145_92, q145_93, q145_96, q145_97, q145_98, q145_101, q145_102, q145_103, q145_104, q145_105, q145_106, q145_107, q145_110, q145_113, q145_114, ix0, e50, c1, i93, i103, r93, r103, q1, zCall_some, Option.toList, List.cons_append, List.nil_append, zb_0, zb_1, zem, z01, z11, nI_add, ↓reduceIte, not_true_eq_false, not_false_eq_true, n0T, n1F, n11T, true_or, or_true, false_or]
    · have q1 : nI (hvOf σ (σ 3) false i) ≤ nI (hvOf (zup σ 1 (σ 1 + 1)) (σ 3) false i) := nI_le (by omega) (by omega)
      rw [if_neg (fun q => h (of_decide_eq_true q)), or_z]
      simp only [q145_0, q145_1, q145_2, q145_5, q145_6, q145_7, q145_8, q145_11, q145_12, q145_14, q145_15, q145_18, q145_19, q145_20, q145_23, q145_24, q145_27, q145_28, q145_29, q145_32, q145_33, q145_34, q145_35, q145_38, q145_41, q145_42, q145_45, q145_46, q145_47, q145_48, q145_49, q145_50, q145_51, q145_52, q145_53, q145_56, q145_57, q145_58, q145_59, q145_62, q145_63, q145_66, q145_67, q145_68, q145_69, q145_70, q145_71, q145_72, q145_73, q145_74, q145_75, q145_77, q145_78, q145_81, q145_82, q145_83, q145_86, q145_87, q145_90, q145_91, q145_92, q145_93, q145_96, q145_97, q145_98, q145_101, q145_102, q145_103, q145_104, q145_105, q145_106, q145_107, q145_110, q145_113, q145_114, ix0, e50, c1, i93, i103, r93, r103, q1, zCall_some, Option.toList, List.cons_append, List.nil_append, zb_0, zb_1, zem, z01, z11, nI_add, ↓reduceIte, not_true_eq_false, not_false_eq_true, n0T, n1F, n11T, true_or, or_true, false_or])
  refine ⟨f4, zuA a4 86 (nI 1) (nI (σ 1)), ?_, hR5, ⟨fun k hk => by rw [u3.1 k hk, t3.1 k hk], fun i i1 i2 i3 => by rw [u3.2.1 i i1 i2 i3, t3.2.1 i i1 i2 i3], fun k hk => by rw [zuA_nk (by omega), u3.2.2 k (by omega), zuA_nk (by omega), g2 k (by omega), t3.2.2 k (by omega)]⟩⟩
  have c1 : nI (σ 0) ≤ nI (σ 0) := nI_le (Nat.le_refl _) (by omega)
  rw [en145]
  simp only [q145_0, q145_1, q145_2, q145_5, q145_6, q145_7, q145_8, q145_11, q145_12, ix3, e3, t1, zCall_some, Option.toList, List.cons_append, List.nil_append, zb_0, zb_1, zem, z01, z11, nI_add, ↓reduceIte, not_true_eq_false, not_false_eq_true, n0T, n1F, n11T, true_or, or_true, false_or]
  refine Eq.trans (show _ = _ from e) ?_
  simp only [q145_0, q145_1, q145_2, q145_5, q145_6, q145_7, q145_8, q145_11, q145_12, q145_13, q145_14, q145_15, q145_18, q145_19, q145_20, q145_23, q145_24, q145_27, q145_28, q145_29, q145_32, q145_33, q145_34, q145_35, q145_38, q145_41, q145_42, q145_45, q145_46, q145_47, q145_48, q145_49, q145_50, q145_51, q145_52, q145_53, q145_56, q145_57, q145_58, q145_59, q145_62, q145_63, q145_66, q145_67, q145_68, q145_69, q145_70, q145_71, q145_72, q145_73, q145_74, q145_75, q145_77, q145_78, q145_81, q145_82, q145_83, q145_86, q145_87, q145_90, q145_91, q145_92, q145_93, q145_96, q145_97, q145_98, q145_101, q145_102, q145_103, q145_104, q145_105, q145_106, q145_107, q145_110, q145_113, q145_114, ix0, ix1, ix3, e0, e1, e33, e41, es, c1, u1, zCall_some, Option.toList, List.cons_append, List.nil_append, zb_0, zb_1, zem, z01, z11, nI_add, ↓reduceIte, not_true_eq_false, not_false_eq_true, n0T, n1F, n11T, true_or, or_true, false_or]
  refine Eq.trans (show _ = _ from key2) ?_
  simp only [q145_76, q145_77, q145_78, q145_81, q145_82, q145_83, q145_113, q145_114, ix0, e50, c1, zCall_some, Option.toList, List.cons_append, List.nil_append, zb_0, zb_1, zem, z01, z11, nI_add, ↓reduceIte, not_true_eq_false, not_false_eq_true, n0T, n1F, n11T, true_or, or_true, false_or]
  rfl
theorem y_told {sc : Int32 × (Int32 → Int32)} {f : zF} {a : zA} {j : zJ} {d : Nat} {σ : Nat → Nat} {what : Int32} (hR : MR σ a) (hV : VS σ) : ∃ (f' : zF) (a' : zA), cf sc (d + 7) 146 [.ref 85, .int what] f a j = some (some (.int (sTold σ what)), f', a', j) ∧ MR σ a' ∧ MFW f f' a a' := by
  have hVR := hV.1.1
  have hn := hVR.1
  have hw : σ 3 ≤ 1010 := by have := hV.1.2.2.2.2; omega
  have hTr : true = true → TrOK σ (σ 3) := fun _ => hV.2.1
  obtain ⟨f1, a1, t1, t2, t3⟩ := m_now (sc := sc) (d := d) (f := f) (j := j) hR hV
  have hR1 := t3.r hR
  obtain ⟨f2, a2, b1, b2, b3⟩ := m_less (sc := sc) (d := d) (f := f1) (j := j) hR1 hV
  obtain ⟨⟨k1, k2, k3, k4, k5, k6, k7⟩, k8, k9⟩ := t2
  have i0 : zIx 21 86 (nI 0) := ix86 (by omega)
  have i1 : zIx 21 86 (nI 1) := ix86 (by omega)
  have i2 : zIx 21 86 (nI 2) := ix86 (by omega)
  have i3 : zIx 21 86 (nI 3) := ix86 (by omega)
  have i4 : zIx 21 86 (nI 4) := ix86 (by omega)
  have e0 := hR1 0 (by omega)
  have e1 := hR1 1 (by omega)
  have e2 := hR1 2 (by omega)
  have e3 := hR1 3 (by omega)
  have e4 := hR1 4 (by omega)
  rw [en146]
  unfold sTold
  by_cases z0 : what = nI 0
  · subst z0
    refine ⟨f1, a1, ?_, hR1, t3.w⟩
    simp only [q146_0, q146_1, q146_4, q146_5, q146_68, q146_69, q146_72, q146_73, q146_74, q146_75, q146_76, q146_79, q146_80, q146_81, q146_82, q146_83, q146_86, q146_87, q146_88, q146_89, q146_90, q146_93, q146_94, q146_95, q146_96, q146_97, q146_100, q146_101, q146_102, q146_105, q146_106, q146_107, q146_110, q146_111, q146_112, q146_115, q146_116, q146_117, q146_120, q146_121, q146_122, q146_125, q146_126, q146_127, q146_128, q146_129, q146_132, q146_133, q146_134, q146_137, q146_138, q146_139, t1, ne0_1, ne0_2, ne0_3, ne0_4, ne0_5, ne0_6, ne0_7, ne0_8, ne0_9, ne0_10, ne0_11, ne0_12, ne1_0, ne1_2, ne1_3, ne1_4, ne1_5, ne1_6, ne1_7, ne1_8, ne1_9, ne1_10, ne1_11, ne1_12, ne2_0, ne2_1, ne2_3, ne2_4, ne2_5, ne2_6, ne2_7, ne2_8, ne2_9, ne2_10, ne2_11, ne2_12, ne3_0, ne3_1, ne3_2, ne3_4, ne3_5, ne3_6, ne3_7, ne3_8, ne3_9, ne3_10, ne3_11, ne3_12, ne4_0, ne4_1, ne4_2, ne4_3, ne4_5, ne4_6, ne4_7, ne4_8, ne4_9, ne4_10, ne4_11, ne4_12, ne5_0, ne5_1, ne5_2, ne5_3, ne5_4, ne5_6, ne5_7, ne5_8, ne5_9, ne5_10, ne5_11, ne5_12, ne6_0, ne6_1, ne6_2, ne6_3, ne6_4, ne6_5, ne6_7, ne6_8, ne6_9, ne6_10, ne6_11, ne6_12, ne7_0, ne7_1, ne7_2, ne7_3, ne7_4, ne7_5, ne7_6, ne7_8, ne7_9, ne7_10, ne7_11, ne7_12, ne8_0, ne8_1, ne8_2, ne8_3, ne8_4, ne8_5, ne8_6, ne8_7, ne8_9, ne8_10, ne8_11, ne8_12, ne9_0, ne9_1, ne9_2, ne9_3, ne9_4, ne9_5, ne9_6, ne9_7, ne9_8, ne9_10, ne9_11, ne9_12, ne10_0, ne10_1, ne10_2, ne10_3, ne10_4, ne10_5, ne10_6, ne10_7, ne10_8, ne10_9, ne10_11, ne10_12, ne11_0, ne11_1, ne11_2, ne11_3, ne11_4, ne11_5, ne11_6, ne11_7, ne11_8, ne11_9, ne11_10, ne11_12, ne12_0, ne12_1, ne12_2, ne12_3, ne12_4, ne12_5, ne12_6, ne12_7, ne12_8, ne12_9, ne12_10, ne12_11, zCall_some, Option.toList, List.cons_append, List.nil_append, zb_0, zb_1, zem, z01, z11, nI_add, ↓reduceIte, not_true_eq_false, not_false_eq_true, n0T, n1F, n11T, true_or, or_true, false_or, i0, e0]
  · skip
    by_cases z1 : what = nI 1
    · subst z1
      refine ⟨f1, a1, ?_, hR1, t3.w⟩
      simp only [q146_0, q146_1, q146_4, q146_5, q146_68, q146_69, q146_72, q146_73, q146_74, q146_75, q146_76, q146_79, q146_80, q146_81, q146_82, q146_83, q146_86, q146_87, q146_88, q146_89, q146_90, q146_93, q146_94, q146_95, q146_96, q146_97, q146_100, q146_101, q146_102, q146_105, q146_106, q146_107, q146_110, q146_111, q146_112, q146_115, q146_116, q146_117, q146_120, q146_121, q146_122, q146_125, q146_126, q146_127, q146_128, q146_129, q146_132, q146_133, q146_134, q146_137, q146_138, q146_139, t1, ne0_1, ne0_2, ne0_3, ne0_4, ne0_5, ne0_6, ne0_7, ne0_8, ne0_9, ne0_10, ne0_11, ne0_12, ne1_0, ne1_2, ne1_3, ne1_4, ne1_5, ne1_6, ne1_7, ne1_8, ne1_9, ne1_10, ne1_11, ne1_12, ne2_0, ne2_1, ne2_3, ne2_4, ne2_5, ne2_6, ne2_7, ne2_8, ne2_9, ne2_10, ne2_11, ne2_12, ne3_0, ne3_1, ne3_2, ne3_4, ne3_5, ne3_6, ne3_7, ne3_8, ne3_9, ne3_10, ne3_11, ne3_12, ne4_0, ne4_1, ne4_2, ne4_3, ne4_5, ne4_6, ne4_7, ne4_8, ne4_9, ne4_10, ne4_11, ne4_12, ne5_0, ne5_1, ne5_2, ne5_3, ne5_4, ne5_6, ne5_7, ne5_8, ne5_9, ne5_10, ne5_11, ne5_12, ne6_0, ne6_1, ne6_2, ne6_3, ne6_4, ne6_5, ne6_7, ne6_8, ne6_9, ne6_10, ne6_11, ne6_12, ne7_0, ne7_1, ne7_2, ne7_3, ne7_4, ne7_5, ne7_6, ne7_8, ne7_9, ne7_10, ne7_11, ne7_12, ne8_0, ne8_1, ne8_2, ne8_3, ne8_4, ne8_5, ne8_6, ne8_7, ne8_9, ne8_10, ne8_11, ne8_12, ne9_0, ne9_1, ne9_2, ne9_3, ne9_4, ne9_5, ne9_6, ne9_7, ne9_8, ne9_10, ne9_11, ne9_12, ne10_0, ne10_1, ne10_2, ne10_3, ne10_4, ne10_5, ne10_6, ne10_7, ne10_8, ne10_9, ne10_11, ne10_12, ne11_0, ne11_1, ne11_2, ne11_3, ne11_4, ne11_5, ne11_6, ne11_7, ne11_8, ne11_9, ne11_10, ne11_12, ne12_0, ne12_1, ne12_2, ne12_3, ne12_4, ne12_5, ne12_6, ne12_7, ne12_8, ne12_9, ne12_10, ne12_11, zCall_some, Option.toList, List.cons_append, List.nil_append, zb_0, zb_1, zem, z01, z11, nI_add, ↓reduceIte, not_true_eq_false, not_false_eq_true, n0T, n1F, n11T, true_or, or_true, false_or, i1, e1]
    · skip
      by_cases z2 : what = nI 2
      · subst z2
        refine ⟨f1, a1, ?_, hR1, t3.w⟩
        simp only [q146_0, q146_1, q146_4, q146_5, q146_68, q146_69, q146_72, q146_73, q146_74, q146_75, q146_76, q146_79, q146_80, q146_81, q146_82, q146_83, q146_86, q146_87, q146_88, q146_89, q146_90, q146_93, q146_94, q146_95, q146_96, q146_97, q146_100, q146_101, q146_102, q146_105, q146_106, q146_107, q146_110, q146_111, q146_112, q146_115, q146_116, q146_117, q146_120, q146_121, q146_122, q146_125, q146_126, q146_127, q146_128, q146_129, q146_132, q146_133, q146_134, q146_137, q146_138, q146_139, t1, ne0_1, ne0_2, ne0_3, ne0_4, ne0_5, ne0_6, ne0_7, ne0_8, ne0_9, ne0_10, ne0_11, ne0_12, ne1_0, ne1_2, ne1_3, ne1_4, ne1_5, ne1_6, ne1_7, ne1_8, ne1_9, ne1_10, ne1_11, ne1_12, ne2_0, ne2_1, ne2_3, ne2_4, ne2_5, ne2_6, ne2_7, ne2_8, ne2_9, ne2_10, ne2_11, ne2_12, ne3_0, ne3_1, ne3_2, ne3_4, ne3_5, ne3_6, ne3_7, ne3_8, ne3_9, ne3_10, ne3_11, ne3_12, ne4_0, ne4_1, ne4_2, ne4_3, ne4_5, ne4_6, ne4_7, ne4_8, ne4_9, ne4_10, ne4_11, ne4_12, ne5_0, ne5_1, ne5_2, ne5_3, ne5_4, ne5_6, ne5_7, ne5_8, ne5_9, ne5_10, ne5_11, ne5_12, ne6_0, ne6_1, ne6_2, ne6_3, ne6_4, ne6_5, ne6_7, ne6_8, ne6_9, ne6_10, ne6_11, ne6_12, ne7_0, ne7_1, ne7_2, ne7_3, ne7_4, ne7_5, ne7_6, ne7_8, ne7_9, ne7_10, ne7_11, ne7_12, ne8_0, ne8_1, ne8_2, ne8_3, ne8_4, ne8_5, ne8_6, ne8_7, ne8_9, ne8_10, ne8_11, ne8_12, ne9_0, ne9_1, ne9_2, ne9_3, ne9_4, ne9_5, ne9_6, ne9_7, ne9_8, ne9_10, ne9_11, ne9_12, ne10_0, ne10_1, ne10_2, ne10_3, ne10_4, ne10_5, ne10_6, ne10_7, ne10_8, ne10_9, ne10_11, ne10_12, ne11_0, ne11_1, ne11_2, ne11_3, ne11_4, ne11_5, ne11_6, ne11_7, ne11_8, ne11_9, ne11_10, ne11_12, ne12_0, ne12_1, ne12_2, ne12_3, ne12_4, ne12_5, ne12_6, ne12_7, ne12_8, ne12_9, ne12_10, ne12_11, zCall_some, Option.toList, List.cons_append, List.nil_append, zb_0, zb_1, zem, z01, z11, nI_add, ↓reduceIte, not_true_eq_false, not_false_eq_true, n0T, n1F, n11T, true_or, or_true, false_or, i2, e2]
      · skip
        by_cases z3 : what = nI 3
        · subst z3
          refine ⟨f1, a1, ?_, hR1, t3.w⟩
          simp only [q146_0, q146_1, q146_4, q146_5, q146_68, q146_69, q146_72, q146_73, q146_74, q146_75, q146_76, q146_79, q146_80, q146_81, q146_82, q146_83, q146_86, q146_87, q146_88, q146_89, q146_90, q146_93, q146_94, q146_95, q146_96, q146_97, q146_100, q146_101, q146_102, q146_105, q146_106, q146_107, q146_110, q146_111, q146_112, q146_115, q146_116, q146_117, q146_120, q146_121, q146_122, q146_125, q146_126, q146_127, q146_128, q146_129, q146_132, q146_133, q146_134, q146_137, q146_138, q146_139, t1, ne0_1, ne0_2, ne0_3, ne0_4, ne0_5, ne0_6, ne0_7, ne0_8, ne0_9, ne0_10, ne0_11, ne0_12, ne1_0, ne1_2, ne1_3, ne1_4, ne1_5, ne1_6, ne1_7, ne1_8, ne1_9, ne1_10, ne1_11, ne1_12, ne2_0, ne2_1, ne2_3, ne2_4, ne2_5, ne2_6, ne2_7, ne2_8, ne2_9, ne2_10, ne2_11, ne2_12, ne3_0, ne3_1, ne3_2, ne3_4, ne3_5, ne3_6, ne3_7, ne3_8, ne3_9, ne3_10, ne3_11, ne3_12, ne4_0, ne4_1, ne4_2, ne4_3, ne4_5, ne4_6, ne4_7, ne4_8, ne4_9, ne4_10, ne4_11, ne4_12, ne5_0, ne5_1, ne5_2, ne5_3, ne5_4, ne5_6, ne5_7, ne5_8, ne5_9, ne5_10, ne5_11, ne5_12, ne6_0, ne6_1, ne6_2, ne6_3, ne6_4, ne6_5, ne6_7, ne6_8, ne6_9, ne6_10, ne6_11, ne6_12, ne7_0, ne7_1, ne7_2, ne7_3, ne7_4, ne7_5, ne7_6, ne7_8, ne7_9, ne7_10, ne7_11, ne7_12, ne8_0, ne8_1, ne8_2, ne8_3, ne8_4, ne8_5, ne8_6, ne8_7, ne8_9, ne8_10, ne8_11, ne8_12, ne9_0, ne9_1, ne9_2, ne9_3, ne9_4, ne9_5, ne9_6, ne9_7, ne9_8, ne9_10, ne9_11, ne9_12, ne10_0, ne10_1, ne10_2, ne10_3, ne10_4, ne10_5, ne10_6, ne10_7, ne10_8, ne10_9, ne10_11, ne10_12, ne11_0, ne11_1, ne11_2, ne11_3, ne11_4, ne11_5, ne11_6, ne11_7, ne11_8, ne11_9, ne11_10, ne11_12, ne12_0, ne12_1, ne12_2, ne12_3, ne12_4, ne12_5, ne12_6, ne12_7, ne12_8, ne12_9, ne12_10, ne12_11, zCall_some, Option.toList, List.cons_append, List.nil_append, zb_0, zb_1, zem, z01, z11, nI_add, ↓reduceIte, not_true_eq_false, not_false_eq_true, n0T, n1F, n11T, true_or, or_true, false_or, i3, e3]
        · skip
          by_cases z4 : what = nI 4
          · subst z4
            refine ⟨f1, a1, ?_, hR1, t3.w⟩
            simp only [q146_0, q146_1, q146_4, q146_5, q146_68, q146_69, q146_72, q146_73, q146_74, q146_75, q146_76, q146_79, q146_80, q146_81, q146_82, q146_83, q146_86, q146_87, q146_88, q146_89, q146_90, q146_93, q146_94, q146_95, q146_96, q146_97, q146_100, q146_101, q146_102, q146_105, q146_106, q146_107, q146_110, q146_111, q146_112, q146_115, q146_116, q146_117, q146_120, q146_121, q146_122, q146_125, q146_126, q146_127, q146_128, q146_129, q146_132, q146_133, q146_134, q146_137, q146_138, q146_139, t1, ne0_1, ne0_2, ne0_3, ne0_4, ne0_5, ne0_6, ne0_7, ne0_8, ne0_9, ne0_10, ne0_11, ne0_12, ne1_0, ne1_2, ne1_3, ne1_4, ne1_5, ne1_6, ne1_7, ne1_8, ne1_9, ne1_10, ne1_11, ne1_12, ne2_0, ne2_1, ne2_3, ne2_4, ne2_5, ne2_6, ne2_7, ne2_8, ne2_9, ne2_10, ne2_11, ne2_12, ne3_0, ne3_1, ne3_2, ne3_4, ne3_5, ne3_6, ne3_7, ne3_8, ne3_9, ne3_10, ne3_11, ne3_12, ne4_0, ne4_1, ne4_2, ne4_3, ne4_5, ne4_6, ne4_7, ne4_8, ne4_9, ne4_10, ne4_11, ne4_12, ne5_0, ne5_1, ne5_2, ne5_3, ne5_4, ne5_6, ne5_7, ne5_8, ne5_9, ne5_10, ne5_11, ne5_12, ne6_0, ne6_1, ne6_2, ne6_3, ne6_4, ne6_5, ne6_7, ne6_8, ne6_9, ne6_10, ne6_11, ne6_12, ne7_0, ne7_1, ne7_2, ne7_3, ne7_4, ne7_5, ne7_6, ne7_8, ne7_9, ne7_10, ne7_11, ne7_12, ne8_0, ne8_1, ne8_2, ne8_3, ne8_4, ne8_5, ne8_6, ne8_7, ne8_9, ne8_10, ne8_11, ne8_12, ne9_0, ne9_1, ne9_2, ne9_3, ne9_4, ne9_5, ne9_6, ne9_7, ne9_8, ne9_10, ne9_11, ne9_12, ne10_0, ne10_1, ne10_2, ne10_3, ne10_4, ne10_5, ne10_6, ne10_7, ne10_8, ne10_9, ne10_11, ne10_12, ne11_0, ne11_1, ne11_2, ne11_3, ne11_4, ne11_5, ne11_6, ne11_7, ne11_8, ne11_9, ne11_10, ne11_12, ne12_0, ne12_1, ne12_2, ne12_3, ne12_4, ne12_5, ne12_6, ne12_7, ne12_8, ne12_9, ne12_10, ne12_11, zCall_some, Option.toList, List.cons_append, List.nil_append, zb_0, zb_1, zem, z01, z11, nI_add, ↓reduceIte, not_true_eq_false, not_false_eq_true, n0T, n1F, n11T, true_or, or_true, false_or, k2]
          · skip
            by_cases z5 : what = nI 5
            · subst z5
              refine ⟨f1, a1, ?_, hR1, t3.w⟩
              simp only [q146_0, q146_1, q146_4, q146_5, q146_68, q146_69, q146_72, q146_73, q146_74, q146_75, q146_76, q146_79, q146_80, q146_81, q146_82, q146_83, q146_86, q146_87, q146_88, q146_89, q146_90, q146_93, q146_94, q146_95, q146_96, q146_97, q146_100, q146_101, q146_102, q146_105, q146_106, q146_107, q146_110, q146_111, q146_112, q146_115, q146_116, q146_117, q146_120, q146_121, q146_122, q146_125, q146_126, q146_127, q146_128, q146_129, q146_132, q146_133, q146_134, q146_137, q146_138, q146_139, t1, ne0_1, ne0_2, ne0_3, ne0_4, ne0_5, ne0_6, ne0_7, ne0_8, ne0_9, ne0_10, ne0_11, ne0_12, ne1_0, ne1_2, ne1_3, ne1_4, ne1_5, ne1_6, ne1_7, ne1_8, ne1_9, ne1_10, ne1_11, ne1_12, ne2_0, ne2_1, ne2_3, ne2_4, ne2_5, ne2_6, ne2_7, ne2_8, ne2_9, ne2_10, ne2_11, ne2_12, ne3_0, ne3_1, ne3_2, ne3_4, ne3_5, ne3_6, ne3_7, ne3_8, ne3_9, ne3_10, ne3_11, ne3_12, ne4_0, ne4_1, ne4_2, ne4_3, ne4_5, ne4_6, ne4_7, ne4_8, ne4_9, ne4_10, ne4_11, ne4_12, ne5_0, ne5_1, ne5_2, ne5_3, ne5_4, ne5_6, ne5_7, ne5_8, ne5_9, ne5_10, ne5_11, ne5_12, ne6_0, ne6_1, ne6_2, ne6_3, ne6_4, ne6_5, ne6_7, ne6_8, ne6_9, ne6_10, ne6_11, ne6_12, ne7_0, ne7_1, ne7_2, ne7_3, ne7_4, ne7_5, ne7_6, ne7_8, ne7_9, ne7_10, ne7_11, ne7_12, ne8_0, ne8_1, ne8_2, ne8_3, ne8_4, ne8_5, ne8_6, ne8_7, ne8_9, ne8_10, ne8_11, ne8_12, ne9_0, ne9_1, ne9_2, ne9_3, ne9_4, ne9_5, ne9_6, ne9_7, ne9_8, ne9_10, ne9_11, ne9_12, ne10_0, ne10_1, ne10_2, ne10_3, ne10_4, ne10_5, ne10_6, ne10_7, ne10_8, ne10_9, ne10_11, ne10_12, ne11_0, ne11_1, ne11_2, ne11_3, ne11_4, ne11_5, ne11_6, ne11_7, ne11_8, ne11_9, ne11_10, ne11_12, ne12_0, ne12_1, ne12_2, ne12_3, ne12_4, ne12_5, ne12_6, ne12_7, ne12_8, ne12_9, ne12_10, ne12_11, zCall_some, Option.toList, List.cons_append, List.nil_append, zb_0, zb_1, zem, z01, z11, nI_add, ↓reduceIte, not_true_eq_false, not_false_eq_true, n0T, n1F, n11T, true_or, or_true, false_or, k3]
            · skip
              by_cases z6 : what = nI 6
              · subst z6
                refine ⟨f1, a1, ?_, hR1, t3.w⟩
                simp only [q146_0, q146_1, q146_4, q146_5, q146_68, q146_69, q146_72, q146_73, q146_74, q146_75, q146_76, q146_79, q146_80, q146_81, q146_82, q146_83, q146_86, q146_87, q146_88, q146_89, q146_90, q146_93, q146_94, q146_95, q146_96, q146_97, q146_100, q146_101, q146_102, q146_105, q146_106, q146_107, q146_110, q146_111, q146_112, q146_115, q146_116, q146_117, q146_120, q146_121, q146_122, q146_125, q146_126, q146_127, q146_128, q146_129, q146_132, q146_133, q146_134, q146_137, q146_138, q146_139, t1, ne0_1, ne0_2, ne0_3, ne0_4, ne0_5, ne0_6, ne0_7, ne0_8, ne0_9, ne0_10, ne0_11, ne0_12, ne1_0, ne1_2, ne1_3, ne1_4, ne1_5, ne1_6, ne1_7, ne1_8, ne1_9, ne1_10, ne1_11, ne1_12, ne2_0, ne2_1, ne2_3, ne2_4, ne2_5, ne2_6, ne2_7, ne2_8, ne2_9, ne2_10, ne2_11, ne2_12, ne3_0, ne3_1, ne3_2, ne3_4, ne3_5, ne3_6, ne3_7, ne3_8, ne3_9, ne3_10, ne3_11, ne3_12, ne4_0, ne4_1, ne4_2, ne4_3, ne4_5, ne4_6, ne4_7, ne4_8, ne4_9, ne4_10, ne4_11, ne4_12, ne5_0, ne5_1, ne5_2, ne5_3, ne5_4, ne5_6, ne5_7, ne5_8, ne5_9, ne5_10, ne5_11, ne5_12, ne6_0, ne6_1, ne6_2, ne6_3, ne6_4, ne6_5, ne6_7, ne6_8, ne6_9, ne6_10, ne6_11, ne6_12, ne7_0, ne7_1, ne7_2, ne7_3, ne7_4, ne7_5, ne7_6, ne7_8, ne7_9, ne7_10, ne7_11, ne7_12, ne8_0, ne8_1, ne8_2, ne8_3, ne8_4, ne8_5, ne8_6, ne8_7, ne8_9, ne8_10, ne8_11, ne8_12, ne9_0, ne9_1, ne9_2, ne9_3, ne9_4, ne9_5, ne9_6, ne9_7, ne9_8, ne9_10, ne9_11, ne9_12, ne10_0, ne10_1, ne10_2, ne10_3, ne10_4, ne10_5, ne10_6, ne10_7, ne10_8, ne10_9, ne10_11, ne10_12, ne11_0, ne11_1, ne11_2, ne11_3, ne11_4, ne11_5, ne11_6, ne11_7, ne11_8, ne11_9, ne11_10, ne11_12, ne12_0, ne12_1, ne12_2, ne12_3, ne12_4, ne12_5, ne12_6, ne12_7, ne12_8, ne12_9, ne12_10, ne12_11, zCall_some, Option.toList, List.cons_append, List.nil_append, zb_0, zb_1, zem, z01, z11, nI_add, ↓reduceIte, not_true_eq_false, not_false_eq_true, n0T, n1F, n11T, true_or, or_true, false_or, m_hasAll hR1 hVR k8]
              · skip
                by_cases z7 : what = nI 7
                · subst z7
                  refine ⟨f1, a1, ?_, hR1, t3.w⟩
                  simp only [q146_0, q146_1, q146_4, q146_5, q146_68, q146_69, q146_72, q146_73, q146_74, q146_75, q146_76, q146_79, q146_80, q146_81, q146_82, q146_83, q146_86, q146_87, q146_88, q146_89, q146_90, q146_93, q146_94, q146_95, q146_96, q146_97, q146_100, q146_101, q146_102, q146_105, q146_106, q146_107, q146_110, q146_111, q146_112, q146_115, q146_116, q146_117, q146_120, q146_121, q146_122, q146_125, q146_126, q146_127, q146_128, q146_129, q146_132, q146_133, q146_134, q146_137, q146_138, q146_139, t1, ne0_1, ne0_2, ne0_3, ne0_4, ne0_5, ne0_6, ne0_7, ne0_8, ne0_9, ne0_10, ne0_11, ne0_12, ne1_0, ne1_2, ne1_3, ne1_4, ne1_5, ne1_6, ne1_7, ne1_8, ne1_9, ne1_10, ne1_11, ne1_12, ne2_0, ne2_1, ne2_3, ne2_4, ne2_5, ne2_6, ne2_7, ne2_8, ne2_9, ne2_10, ne2_11, ne2_12, ne3_0, ne3_1, ne3_2, ne3_4, ne3_5, ne3_6, ne3_7, ne3_8, ne3_9, ne3_10, ne3_11, ne3_12, ne4_0, ne4_1, ne4_2, ne4_3, ne4_5, ne4_6, ne4_7, ne4_8, ne4_9, ne4_10, ne4_11, ne4_12, ne5_0, ne5_1, ne5_2, ne5_3, ne5_4, ne5_6, ne5_7, ne5_8, ne5_9, ne5_10, ne5_11, ne5_12, ne6_0, ne6_1, ne6_2, ne6_3, ne6_4, ne6_5, ne6_7, ne6_8, ne6_9, ne6_10, ne6_11, ne6_12, ne7_0, ne7_1, ne7_2, ne7_3, ne7_4, ne7_5, ne7_6, ne7_8, ne7_9, ne7_10, ne7_11, ne7_12, ne8_0, ne8_1, ne8_2, ne8_3, ne8_4, ne8_5, ne8_6, ne8_7, ne8_9, ne8_10, ne8_11, ne8_12, ne9_0, ne9_1, ne9_2, ne9_3, ne9_4, ne9_5, ne9_6, ne9_7, ne9_8, ne9_10, ne9_11, ne9_12, ne10_0, ne10_1, ne10_2, ne10_3, ne10_4, ne10_5, ne10_6, ne10_7, ne10_8, ne10_9, ne10_11, ne10_12, ne11_0, ne11_1, ne11_2, ne11_3, ne11_4, ne11_5, ne11_6, ne11_7, ne11_8, ne11_9, ne11_10, ne11_12, ne12_0, ne12_1, ne12_2, ne12_3, ne12_4, ne12_5, ne12_6, ne12_7, ne12_8, ne12_9, ne12_10, ne12_11, zCall_some, Option.toList, List.cons_append, List.nil_append, zb_0, zb_1, zem, z01, z11, nI_add, ↓reduceIte, not_true_eq_false, not_false_eq_true, n0T, n1F, n11T, true_or, or_true, false_or, k1]
                · skip
                  by_cases z8 : what = nI 8
                  · subst z8
                    refine ⟨f1, a1, ?_, hR1, t3.w⟩
                    simp only [q146_0, q146_1, q146_4, q146_5, q146_68, q146_69, q146_72, q146_73, q146_74, q146_75, q146_76, q146_79, q146_80, q146_81, q146_82, q146_83, q146_86, q146_87, q146_88, q146_89, q146_90, q146_93, q146_94, q146_95, q146_96, q146_97, q146_100, q146_101, q146_102, q146_105, q146_106, q146_107, q146_110, q146_111, q146_112, q146_115, q146_116, q146_117, q146_120, q146_121, q146_122, q146_125, q146_126, q146_127, q146_128, q146_129, q146_132, q146_133, q146_134, q146_137, q146_138, q146_139, t1, ne0_1, ne0_2, ne0_3, ne0_4, ne0_5, ne0_6, ne0_7, ne0_8, ne0_9, ne0_10, ne0_11, ne0_12, ne1_0, ne1_2, ne1_3, ne1_4, ne1_5, ne1_6, ne1_7, ne1_8, ne1_9, ne1_10, ne1_11, ne1_12, ne2_0, ne2_1, ne2_3, ne2_4, ne2_5, ne2_6, ne2_7, ne2_8, ne2_9, ne2_10, ne2_11, ne2_12, ne3_0, ne3_1, ne3_2, ne3_4, ne3_5, ne3_6, ne3_7, ne3_8, ne3_9, ne3_10, ne3_11, ne3_12, ne4_0, ne4_1, ne4_2, ne4_3, ne4_5, ne4_6, ne4_7, ne4_8, ne4_9, ne4_10, ne4_11, ne4_12, ne5_0, ne5_1, ne5_2, ne5_3, ne5_4, ne5_6, ne5_7, ne5_8, ne5_9, ne5_10, ne5_11, ne5_12, ne6_0, ne6_1, ne6_2, ne6_3, ne6_4, ne6_5, ne6_7, ne6_8, ne6_9, ne6_10, ne6_11, ne6_12, ne7_0, ne7_1, ne7_2, ne7_3, ne7_4, ne7_5, ne7_6, ne7_8, ne7_9, ne7_10, ne7_11, ne7_12, ne8_0, ne8_1, ne8_2, ne8_3, ne8_4, ne8_5, ne8_6, ne8_7, ne8_9, ne8_10, ne8_11, ne8_12, ne9_0, ne9_1, ne9_2, ne9_3, ne9_4, ne9_5, ne9_6, ne9_7, ne9_8, ne9_10, ne9_11, ne9_12, ne10_0, ne10_1, ne10_2, ne10_3, ne10_4, ne10_5, ne10_6, ne10_7, ne10_8, ne10_9, ne10_11, ne10_12, ne11_0, ne11_1, ne11_2, ne11_3, ne11_4, ne11_5, ne11_6, ne11_7, ne11_8, ne11_9, ne11_10, ne11_12, ne12_0, ne12_1, ne12_2, ne12_3, ne12_4, ne12_5, ne12_6, ne12_7, ne12_8, ne12_9, ne12_10, ne12_11, zCall_some, Option.toList, List.cons_append, List.nil_append, zb_0, zb_1, zem, z01, z11, nI_add, ↓reduceIte, not_true_eq_false, not_false_eq_true, n0T, n1F, n11T, true_or, or_true, false_or, m_waterAll hR1 hVR k8]
                  · skip
                    by_cases z9 : what = nI 9
                    · subst z9
                      refine ⟨f1, a1, ?_, hR1, t3.w⟩
                      simp only [q146_0, q146_1, q146_4, q146_5, q146_68, q146_69, q146_72, q146_73, q146_74, q146_75, q146_76, q146_79, q146_80, q146_81, q146_82, q146_83, q146_86, q146_87, q146_88, q146_89, q146_90, q146_93, q146_94, q146_95, q146_96, q146_97, q146_100, q146_101, q146_102, q146_105, q146_106, q146_107, q146_110, q146_111, q146_112, q146_115, q146_116, q146_117, q146_120, q146_121, q146_122, q146_125, q146_126, q146_127, q146_128, q146_129, q146_132, q146_133, q146_134, q146_137, q146_138, q146_139, t1, ne0_1, ne0_2, ne0_3, ne0_4, ne0_5, ne0_6, ne0_7, ne0_8, ne0_9, ne0_10, ne0_11, ne0_12, ne1_0, ne1_2, ne1_3, ne1_4, ne1_5, ne1_6, ne1_7, ne1_8, ne1_9, ne1_10, ne1_11, ne1_12, ne2_0, ne2_1, ne2_3, ne2_4, ne2_5, ne2_6, ne2_7, ne2_8, ne2_9, ne2_10, ne2_11, ne2_12, ne3_0, ne3_1, ne3_2, ne3_4, ne3_5, ne3_6, ne3_7, ne3_8, ne3_9, ne3_10, ne3_11, ne3_12, ne4_0, ne4_1, ne4_2, ne4_3, ne4_5, ne4_6, ne4_7, ne4_8, ne4_9, ne4_10, ne4_11, ne4_12, ne5_0, ne5_1, ne5_2, ne5_3, ne5_4, ne5_6, ne5_7, ne5_8, ne5_9, ne5_10, ne5_11, ne5_12, ne6_0, ne6_1, ne6_2, ne6_3, ne6_4, ne6_5, ne6_7, ne6_8, ne6_9, ne6_10, ne6_11, ne6_12, ne7_0, ne7_1, ne7_2, ne7_3, ne7_4, ne7_5, ne7_6, ne7_8, ne7_9, ne7_10, ne7_11, ne7_12, ne8_0, ne8_1, ne8_2, ne8_3, ne8_4, ne8_5, ne8_6, ne8_7, ne8_9, ne8_10, ne8_11, ne8_12, ne9_0, ne9_1, ne9_2, ne9_3, ne9_4, ne9_5, ne9_6, ne9_7, ne9_8, ne9_10, ne9_11, ne9_12, ne10_0, ne10_1, ne10_2, ne10_3, ne10_4, ne10_5, ne10_6, ne10_7, ne10_8, ne10_9, ne10_11, ne10_12, ne11_0, ne11_1, ne11_2, ne11_3, ne11_4, ne11_5, ne11_6, ne11_7, ne11_8, ne11_9, ne11_10, ne11_12, ne12_0, ne12_1, ne12_2, ne12_3, ne12_4, ne12_5, ne12_6, ne12_7, ne12_8, ne12_9, ne12_10, ne12_11, zCall_some, Option.toList, List.cons_append, List.nil_append, zb_0, zb_1, zem, z01, z11, nI_add, ↓reduceIte, not_true_eq_false, not_false_eq_true, n0T, n1F, n11T, true_or, or_true, false_or, i4, e4]
                    · skip
                      by_cases z10 : what = nI 10
                      · subst z10
                        refine ⟨f1, a1, ?_, hR1, t3.w⟩
                        simp only [q146_0, q146_1, q146_4, q146_5, q146_68, q146_69, q146_72, q146_73, q146_74, q146_75, q146_76, q146_79, q146_80, q146_81, q146_82, q146_83, q146_86, q146_87, q146_88, q146_89, q146_90, q146_93, q146_94, q146_95, q146_96, q146_97, q146_100, q146_101, q146_102, q146_105, q146_106, q146_107, q146_110, q146_111, q146_112, q146_115, q146_116, q146_117, q146_120, q146_121, q146_122, q146_125, q146_126, q146_127, q146_128, q146_129, q146_132, q146_133, q146_134, q146_137, q146_138, q146_139, t1, ne0_1, ne0_2, ne0_3, ne0_4, ne0_5, ne0_6, ne0_7, ne0_8, ne0_9, ne0_10, ne0_11, ne0_12, ne1_0, ne1_2, ne1_3, ne1_4, ne1_5, ne1_6, ne1_7, ne1_8, ne1_9, ne1_10, ne1_11, ne1_12, ne2_0, ne2_1, ne2_3, ne2_4, ne2_5, ne2_6, ne2_7, ne2_8, ne2_9, ne2_10, ne2_11, ne2_12, ne3_0, ne3_1, ne3_2, ne3_4, ne3_5, ne3_6, ne3_7, ne3_8, ne3_9, ne3_10, ne3_11, ne3_12, ne4_0, ne4_1, ne4_2, ne4_3, ne4_5, ne4_6, ne4_7, ne4_8, ne4_9, ne4_10, ne4_11, ne4_12, ne5_0, ne5_1, ne5_2, ne5_3, ne5_4, ne5_6, ne5_7, ne5_8, ne5_9, ne5_10, ne5_11, ne5_12, ne6_0, ne6_1, ne6_2, ne6_3, ne6_4, ne6_5, ne6_7, ne6_8, ne6_9, ne6_10, ne6_11, ne6_12, ne7_0, ne7_1, ne7_2, ne7_3, ne7_4, ne7_5, ne7_6, ne7_8, ne7_9, ne7_10, ne7_11, ne7_12, ne8_0, ne8_1, ne8_2, ne8_3, ne8_4, ne8_5, ne8_6, ne8_7, ne8_9, ne8_10, ne8_11, ne8_12, ne9_0, ne9_1, ne9_2, ne9_3, ne9_4, ne9_5, ne9_6, ne9_7, ne9_8, ne9_10, ne9_11, ne9_12, ne10_0, ne10_1, ne10_2, ne10_3, ne10_4, ne10_5, ne10_6, ne10_7, ne10_8, ne10_9, ne10_11, ne10_12, ne11_0, ne11_1, ne11_2, ne11_3, ne11_4, ne11_5, ne11_6, ne11_7, ne11_8, ne11_9, ne11_10, ne11_12, ne12_0, ne12_1, ne12_2, ne12_3, ne12_4, ne12_5, ne12_6, ne12_7, ne12_8, ne12_9, ne12_10, ne12_11, zCall_some, Option.toList, List.cons_append, List.nil_append, zb_0, zb_1, zem, z01, z11, nI_add, ↓reduceIte, not_true_eq_false, not_false_eq_true, n0T, n1F, n11T, true_or, or_true, false_or, m_nightsAll hR1 hVR (fun g hg => (k9 g hg).2)]
                      · skip
                        by_cases z11 : what = nI 11
                        · subst z11
                          refine ⟨f2, a2, ?_, b2, t3.w.tr b3⟩
                          simp only [q146_0, q146_1, q146_4, q146_5, q146_68, q146_69, q146_72, q146_73, q146_74, q146_75, q146_76, q146_79, q146_80, q146_81, q146_82, q146_83, q146_86, q146_87, q146_88, q146_89, q146_90, q146_93, q146_94, q146_95, q146_96, q146_97, q146_100, q146_101, q146_102, q146_105, q146_106, q146_107, q146_110, q146_111, q146_112, q146_115, q146_116, q146_117, q146_120, q146_121, q146_122, q146_125, q146_126, q146_127, q146_128, q146_129, q146_132, q146_133, q146_134, q146_137, q146_138, q146_139, t1, ne0_1, ne0_2, ne0_3, ne0_4, ne0_5, ne0_6, ne0_7, ne0_8, ne0_9, ne0_10, ne0_11, ne0_12, ne1_0, ne1_2, ne1_3, ne1_4, ne1_5, ne1_6, ne1_7, ne1_8, ne1_9, ne1_10, ne1_11, ne1_12, ne2_0, ne2_1, ne2_3, ne2_4, ne2_5, ne2_6, ne2_7, ne2_8, ne2_9, ne2_10, ne2_11, ne2_12, ne3_0, ne3_1, ne3_2, ne3_4, ne3_5, ne3_6, ne3_7, ne3_8, ne3_9, ne3_10, ne3_11, ne3_12, ne4_0, ne4_1, ne4_2, ne4_3, ne4_5, ne4_6, ne4_7, ne4_8, ne4_9, ne4_10, ne4_11, ne4_12, ne5_0, ne5_1, ne5_2, ne5_3, ne5_4, ne5_6, ne5_7, ne5_8, ne5_9, ne5_10, ne5_11, ne5_12, ne6_0, ne6_1, ne6_2, ne6_3, ne6_4, ne6_5, ne6_7, ne6_8, ne6_9, ne6_10, ne6_11, ne6_12, ne7_0, ne7_1, ne7_2, ne7_3, ne7_4, ne7_5, ne7_6, ne7_8, ne7_9, ne7_10, ne7_11, ne7_12, ne8_0, ne8_1, ne8_2, ne8_3, ne8_4, ne8_5, ne8_6, ne8_7, ne8_9, ne8_10, ne8_11, ne8_12, ne9_0, ne9_1, ne9_2, ne9_3, ne9_4, ne9_5, ne9_6, ne9_7, ne9_8, ne9_10, ne9_11, ne9_12, ne10_0, ne10_1, ne10_2, ne10_3, ne10_4, ne10_5, ne10_6, ne10_7, ne10_8, ne10_9, ne10_11, ne10_12, ne11_0, ne11_1, ne11_2, ne11_3, ne11_4, ne11_5, ne11_6, ne11_7, ne11_8, ne11_9, ne11_10, ne11_12, ne12_0, ne12_1, ne12_2, ne12_3, ne12_4, ne12_5, ne12_6, ne12_7, ne12_8, ne12_9, ne12_10, ne12_11, zCall_some, Option.toList, List.cons_append, List.nil_append, zb_0, zb_1, zem, z01, z11, nI_add, ↓reduceIte, not_true_eq_false, not_false_eq_true, n0T, n1F, n11T, true_or, or_true, false_or, b1]
                        · skip
                          refine ⟨f1, a1, ?_, hR1, t3.w⟩
                          simp only [q146_0, q146_1, q146_4, q146_5, q146_68, q146_69, q146_72, q146_73, q146_74, q146_75, q146_76, q146_79, q146_80, q146_81, q146_82, q146_83, q146_86, q146_87, q146_88, q146_89, q146_90, q146_93, q146_94, q146_95, q146_96, q146_97, q146_100, q146_101, q146_102, q146_105, q146_106, q146_107, q146_110, q146_111, q146_112, q146_115, q146_116, q146_117, q146_120, q146_121, q146_122, q146_125, q146_126, q146_127, q146_128, q146_129, q146_132, q146_133, q146_134, q146_137, q146_138, q146_139, t1, ne0_1, ne0_2, ne0_3, ne0_4, ne0_5, ne0_6, ne0_7, ne0_8, ne0_9, ne0_10, ne0_11, ne0_12, ne1_0, ne1_2, ne1_3, ne1_4, ne1_5, ne1_6, ne1_7, ne1_8, ne1_9, ne1_10, ne1_11, ne1_12, ne2_0, ne2_1, ne2_3, ne2_4, ne2_5, ne2_6, ne2_7, ne2_8, ne2_9, ne2_10, ne2_11, ne2_12, ne3_0, ne3_1, ne3_2, ne3_4, ne3_5, ne3_6, ne3_7, ne3_8, ne3_9, ne3_10, ne3_11, ne3_12, ne4_0, ne4_1, ne4_2, ne4_3, ne4_5, ne4_6, ne4_7, ne4_8, ne4_9, ne4_10, ne4_11, ne4_12, ne5_0, ne5_1, ne5_2, ne5_3, ne5_4, ne5_6, ne5_7, ne5_8, ne5_9, ne5_10, ne5_11, ne5_12, ne6_0, ne6_1, ne6_2, ne6_3, ne6_4, ne6_5, ne6_7, ne6_8, ne6_9, ne6_10, ne6_11, ne6_12, ne7_0, ne7_1, ne7_2, ne7_3, ne7_4, ne7_5, ne7_6, ne7_8, ne7_9, ne7_10, ne7_11, ne7_12, ne8_0, ne8_1, ne8_2, ne8_3, ne8_4, ne8_5, ne8_6, ne8_7, ne8_9, ne8_10, ne8_11, ne8_12, ne9_0, ne9_1, ne9_2, ne9_3, ne9_4, ne9_5, ne9_6, ne9_7, ne9_8, ne9_10, ne9_11, ne9_12, ne10_0, ne10_1, ne10_2, ne10_3, ne10_4, ne10_5, ne10_6, ne10_7, ne10_8, ne10_9, ne10_11, ne10_12, ne11_0, ne11_1, ne11_2, ne11_3, ne11_4, ne11_5, ne11_6, ne11_7, ne11_8, ne11_9, ne11_10, ne11_12, ne12_0, ne12_1, ne12_2, ne12_3, ne12_4, ne12_5, ne12_6, ne12_7, ne12_8, ne12_9, ne12_10, ne12_11, zCall_some, Option.toList, List.cons_append, List.nil_append, zb_0, zb_1, zem, z01, z11, nI_add, ↓reduceIte, not_true_eq_false, not_false_eq_true, n0T, n1F, n11T, true_or, or_true, false_or, z0, z1, z2, z3, z4, z5, z6, z7, z8, z9, z10, z11]
theorem y_trade {sc : Int32 × (Int32 → Int32)} {f : zF} {a : zA} {j : zJ} {d : Nat} {σ : Nat → Nat} {x y h : Int32} (hR : MR σ a) (hV : VS σ) : ∃ (f' : zF) (a' : zA), cf sc (d + 7) 147 [.ref 85, .int x, .int y, .int h] f a j = some (some (.int (tdS σ x y h).1), f', a', j) ∧ MR (tdS σ x y h).2 a' ∧ MFW f f' a a' := by
  have hVR := hV.1.1
  have hn := hVR.1
  have hw : σ 3 ≤ 1010 := by have := hV.1.2.2.2.2; omega
  have hTr : true = true → TrOK σ (σ 3) := fun _ => hV.2.1
  have hF : ∀ v : Int32, cf sc (d + 6) 103 [.ref 85, .int v] f a j = some (some (.int (zb (zHas v (σ 0)))), f, a, j) := fun v => m_isField (d := d + 4) hR hn
  have h12 := hV.2.1.1
  rw [en147]
  unfold tdS
  by_cases hx : zHas x (σ 0)
  · by_cases hy : zHas y (σ 0)
    · by_cases hxy : x = y
      · rw [if_neg (fun q => q.2.2 hxy)]
        refine ⟨f, a, ?_, hR, MFW.rf⟩
        simp only [q147_0, q147_1, q147_2, q147_5, q147_8, q147_9, q147_10, q147_13, q147_16, q147_17, q147_18, q147_21, q147_22, q147_23, q147_24, q147_25, q147_26, q147_29, q147_32, q147_35, q147_37, q147_38, q147_39, q147_42, q147_43, q147_44, q147_47, q147_50, q147_51, q147_52, q147_55, q147_58, q147_59, q147_62, q147_63, q147_64, q147_65, q147_68, q147_70, q147_71, q147_72, q147_75, q147_76, q147_77, q147_79, q147_82, q147_84, q147_85, q147_86, q147_89, q147_90, q147_91, q147_93, q147_94, q147_97, q147_99, q147_101, q147_102, q147_103, q147_104, q147_105, q147_108, q147_110, q147_112, q147_113, q147_114, q147_115, q147_116, q147_119, q147_121, q147_123, q147_124, q147_125, q147_126, q147_127, q147_130, q147_131, q147_132, q147_133, q147_134, q147_135, q147_136, q147_137, q147_140, q147_141, q147_142, hF, eq_true hx, eq_true hy, eq_true hxy, zCall_some, Option.toList, List.cons_append, List.nil_append, zb_0, zb_1, zem, z01, z11, nI_add, ↓reduceIte, not_true_eq_false, not_false_eq_true, n0T, n1F, n11T, true_or, or_true, false_or]
      · rw [if_pos ⟨hx, hy, hxy⟩]
        by_cases hh : zBtw h 1 96
        · rw [if_pos hh]
          obtain ⟨p, hp, rfl⟩ := zHas_of (by omega) hx
          obtain ⟨q, hq, rfl⟩ := zHas_of (by omega) hy
          obtain ⟨m, m1, m2, rfl⟩ := zBtw_of (by omega) (by omega) hh
          rw [nI_clamp (n := p) (by omega), nI_clamp (n := q) (by omega), nI_clamp (n := m) (by omega)]
          obtain ⟨f1, a1, t1, t2, t3⟩ := m_now (sc := sc) (d := d) (f := f) (j := j) hR hV
          have hR1 := t3.r hR
          have hA1 := m_isAwayR (sc := sc) (d := d + 5) (f := f1) (j := j) hR1 (show p < 8 by omega) (hVR.2.2.1 p hp).2.2
          have hA2 := m_isAwayR (sc := sc) (d := d + 5) (f := f1) (j := j) hR1 (show q < 8 by omega) (hVR.2.2.1 q hq).2.2
          have i93 : zIx 21 93 (nI p) := ix93 (by omega)
          have r93 := t2.2.1 p hp
          have h97 := hv_97 hVR hTr hp
          have i4 : zIx 21 86 (nI 4) := ix86 (by omega)
          have e4 := hR1 4 (by omega)
          by_cases w1 : σ (32 + p) = 1
          · rw [if_neg (fun z => z.1 w1)]
            refine ⟨f1, a1, ?_, hR1, t3.w⟩
            simp only [q147_0, q147_1, q147_2, q147_5, q147_8, q147_9, q147_10, q147_13, q147_16, q147_17, q147_18, q147_21, q147_22, q147_23, q147_24, q147_25, q147_26, q147_29, q147_32, q147_35, q147_37, q147_38, q147_39, q147_42, q147_43, q147_44, q147_47, q147_50, q147_51, q147_52, q147_55, q147_58, q147_59, q147_62, q147_63, q147_64, q147_65, q147_68, q147_70, q147_71, q147_72, q147_75, q147_76, q147_77, q147_79, q147_82, q147_84, q147_85, q147_86, q147_89, q147_90, q147_91, q147_93, q147_94, q147_97, q147_99, q147_101, q147_102, q147_103, q147_104, q147_105, q147_108, q147_110, q147_112, q147_113, q147_114, q147_115, q147_116, q147_119, q147_121, q147_123, q147_124, q147_125, q147_126, q147_127, q147_130, q147_131, q147_132, q147_133, q147_134, q147_135, q147_136, q147_137, q147_140, q147_141, q147_142, hF, eq_true hx, eq_true hy, eq_false hxy, in196, eq_true hh, t1, hA1, eq_true w1, zCall_some, Option.toList, List.cons_append, List.nil_append, zb_0, zb_1, zem, z01, z11, nI_add, ↓reduceIte, not_true_eq_false, not_false_eq_true, n0T, n1F, n11T, true_or, or_true, false_or]
          · by_cases w2 : σ (32 + q) = 1
            · rw [if_neg (fun z => z.2.1 w2)]
              refine ⟨f1, a1, ?_, hR1, t3.w⟩
              simp only [q147_0, q147_1, q147_2, q147_5, q147_8, q147_9, q147_10, q147_13, q147_16, q147_17, q147_18, q147_21, q147_22, q147_23, q147_24, q147_25, q147_26, q147_29, q147_32, q147_35, q147_37, q147_38, q147_39, q147_42, q147_43, q147_44, q147_47, q147_50, q147_51, q147_52, q147_55, q147_58, q147_59, q147_62, q147_63, q147_64, q147_65, q147_68, q147_70, q147_71, q147_72, q147_75, q147_76, q147_77, q147_79, q147_82, q147_84, q147_85, q147_86, q147_89, q147_90, q147_91, q147_93, q147_94, q147_97, q147_99, q147_101, q147_102, q147_103, q147_104, q147_105, q147_108, q147_110, q147_112, q147_113, q147_114, q147_115, q147_116, q147_119, q147_121, q147_123, q147_124, q147_125, q147_126, q147_127, q147_130, q147_131, q147_132, q147_133, q147_134, q147_135, q147_136, q147_137, q147_140, q147_141, q147_142, hF, eq_true hx, eq_true hy, eq_false hxy, in196, eq_true hh, t1, hA1, hA2, eq_false w1, eq_true w2, zCall_some, Option.toList, List.cons_append, List.nil_append, zb_0, zb_1, zem, z01, z11, nI_add, ↓reduceIte, not_true_eq_false, not_false_eq_true, n0T, n1F, n11T, true_or, or_true, false_or]
            · by_cases w3 : m ≤ hvOf σ (σ 3) true p
              · rw [if_pos ⟨w1, w2, w3⟩]
                have c1 : nI m ≤ nI (hvOf σ (σ 3) true p) := nI_le w3 (by omega)
                have q12 : (nI (σ 4) = nI 12) = (σ 4 = 12) := propext (nI_eq (by omega) (by omega))
                by_cases w4 : σ 4 < 12
                · rw [if_pos w4]
                  have n12 : ¬ σ 4 = 12 := by omega
                  have i40 : zIx 21 86 (nI (40 + σ 4)) := ix86 (by omega)
                  have i52 : zIx 21 86 (nI (52 + σ 4)) := ix86 (by omega)
                  have i64 : zIx 21 86 (nI (64 + σ 4)) := ix86 (by omega)
                  have hR2 : MR (zup (zup (zup σ (40 + σ 4) p) (52 + σ 4) q) (64 + σ 4) m) (zuA (zuA (zuA a1 86 (nI (40 + σ 4)) (nI p)) 86 (nI (52 + σ 4)) (nI q)) 86 (nI (64 + σ 4)) (nI m)) := ((hR1.set (by omega)).set (by omega)).set (by omega)
                  have e4' := hR2 4 (by omega)
                  rw [zup_ne (by omega), zup_ne (by omega), zup_ne (by omega)] at e4'
                  refine ⟨f1, zuA (zuA (zuA (zuA a1 86 (nI (40 + σ 4)) (nI p)) 86 (nI (52 + σ 4)) (nI q)) 86 (nI (64 + σ 4)) (nI m)) 86 (nI 4) (nI (σ 4 + 1)), ?_, hR2.set (by omega), t3.w.tr (MFW.a (fun k hk => by rw [zuA_nk (by omega), zuA_nk (by omega), zuA_nk (by omega), zuA_nk (by omega)]))⟩
                  simp only [q147_0, q147_1, q147_2, q147_5, q147_8, q147_9, q147_10, q147_13, q147_16, q147_17, q147_18, q147_21, q147_22, q147_23, q147_24, q147_25, q147_26, q147_29, q147_32, q147_35, q147_37, q147_38, q147_39, q147_42, q147_43, q147_44, q147_47, q147_50, q147_51, q147_52, q147_55, q147_58, q147_59, q147_62, q147_63, q147_64, q147_65, q147_68, q147_70, q147_71, q147_72, q147_75, q147_76, q147_77, q147_79, q147_82, q147_84, q147_85, q147_86, q147_89, q147_90, q147_91, q147_93, q147_94, q147_97, q147_99, q147_101, q147_102, q147_103, q147_104, q147_105, q147_108, q147_110, q147_112, q147_113, q147_114, q147_115, q147_116, q147_119, q147_121, q147_123, q147_124, q147_125, q147_126, q147_127, q147_130, q147_131, q147_132, q147_133, q147_134, q147_135, q147_136, q147_137, q147_140, q147_141, q147_142, hF, eq_true hx, eq_true hy, eq_false hxy, in196, eq_true hh, t1, hA1, hA2, eq_false w1, eq_false w2, i93, r93, c1, i4, e4, q12, n12, i40, i52, i64, e4', zuA_eq, zCall_some, Option.toList, List.cons_append, List.nil_append, zb_0, zb_1, zem, z01, z11, nI_add, ↓reduceIte, not_true_eq_false, not_false_eq_true, n0T, n1F, n11T, true_or, or_true, false_or]
                · rw [if_neg w4]
                  have n12 : σ 4 = 12 := by omega
                  refine ⟨f1, a1, ?_, hR1, t3.w⟩
                  simp only [q147_0, q147_1, q147_2, q147_5, q147_8, q147_9, q147_10, q147_13, q147_16, q147_17, q147_18, q147_21, q147_22, q147_23, q147_24, q147_25, q147_26, q147_29, q147_32, q147_35, q147_37, q147_38, q147_39, q147_42, q147_43, q147_44, q147_47, q147_50, q147_51, q147_52, q147_55, q147_58, q147_59, q147_62, q147_63, q147_64, q147_65, q147_68, q147_70, q147_71, q147_72, q147_75, q147_76, q147_77, q147_79, q147_82, q147_84, q147_85, q147_86, q147_89, q147_90, q147_91, q147_93, q147_94, q147_97, q147_99, q147_101, q147_102, q147_103, q147_104, q147_105, q147_108, q147_110, q147_112, q147_113, q147_114, q147_115, q147_116, q147_119, q147_121, q147_123, q147_124, q147_125, q147_126, q147_127, q147_130, q147_131, q147_132, q147_133, q147_134, q147_135, q147_136, q147_137, q147_140, q147_141, q147_142, hF, eq_true hx, eq_true hy, eq_false hxy, in196, eq_true hh, t1, hA1, hA2, eq_false w1, eq_false w2, i93, r93, c1, i4, e4, q12, eq_true n12, zCall_some, Option.toList, List.cons_append, List.nil_append, zb_0, zb_1, zem, z01, z11, nI_add, ↓reduceIte, not_true_eq_false, not_false_eq_true, n0T, n1F, n11T, true_or, or_true, false_or]
              · rw [if_neg (fun z => w3 z.2.2)]
                have c1 : ¬ nI m ≤ nI (hvOf σ (σ 3) true p) := nI_ge (by omega) (by omega)
                refine ⟨f1, a1, ?_, hR1, t3.w⟩
                simp only [q147_0, q147_1, q147_2, q147_5, q147_8, q147_9, q147_10, q147_13, q147_16, q147_17, q147_18, q147_21, q147_22, q147_23, q147_24, q147_25, q147_26, q147_29, q147_32, q147_35, q147_37, q147_38, q147_39, q147_42, q147_43, q147_44, q147_47, q147_50, q147_51, q147_52, q147_55, q147_58, q147_59, q147_62, q147_63, q147_64, q147_65, q147_68, q147_70, q147_71, q147_72, q147_75, q147_76, q147_77, q147_79, q147_82, q147_84, q147_85, q147_86, q147_89, q147_90, q147_91, q147_93, q147_94, q147_97, q147_99, q147_101, q147_102, q147_103, q147_104, q147_105, q147_108, q147_110, q147_112, q147_113, q147_114, q147_115, q147_116, q147_119, q147_121, q147_123, q147_124, q147_125, q147_126, q147_127, q147_130, q147_131, q147_132, q147_133, q147_134, q147_135, q147_136, q147_137, q147_140, q147_141, q147_142, hF, eq_true hx, eq_true hy, eq_false hxy, in196, eq_true hh, t1, hA1, hA2, eq_false w1, eq_false w2, i93, r93, c1, zCall_some, Option.toList, List.cons_append, List.nil_append, zb_0, zb_1, zem, z01, z11, nI_add, ↓reduceIte, not_true_eq_false, not_false_eq_true, n0T, n1F, n11T, true_or, or_true, false_or]
        · rw [if_neg hh]
          refine ⟨f, a, ?_, hR, MFW.rf⟩
          simp only [q147_0, q147_1, q147_2, q147_5, q147_8, q147_9, q147_10, q147_13, q147_16, q147_17, q147_18, q147_21, q147_22, q147_23, q147_24, q147_25, q147_26, q147_29, q147_32, q147_35, q147_37, q147_38, q147_39, q147_42, q147_43, q147_44, q147_47, q147_50, q147_51, q147_52, q147_55, q147_58, q147_59, q147_62, q147_63, q147_64, q147_65, q147_68, q147_70, q147_71, q147_72, q147_75, q147_76, q147_77, q147_79, q147_82, q147_84, q147_85, q147_86, q147_89, q147_90, q147_91, q147_93, q147_94, q147_97, q147_99, q147_101, q147_102, q147_103, q147_104, q147_105, q147_108, q147_110, q147_112, q147_113, q147_114, q147_115, q147_116, q147_119, q147_121, q147_123, q147_124, q147_125, q147_126, q147_127, q147_130, q147_131, q147_132, q147_133, q147_134, q147_135, q147_136, q147_137, q147_140, q147_141, q147_142, hF, eq_true hx, eq_true hy, eq_false hxy, in196, eq_false hh, zCall_some, Option.toList, List.cons_append, List.nil_append, zb_0, zb_1, zem, z01, z11, nI_add, ↓reduceIte, not_true_eq_false, not_false_eq_true, n0T, n1F, n11T, true_or, or_true, false_or]
    · rw [if_neg (fun q => hy q.2.1)]
      refine ⟨f, a, ?_, hR, MFW.rf⟩
      simp only [q147_0, q147_1, q147_2, q147_5, q147_8, q147_9, q147_10, q147_13, q147_16, q147_17, q147_18, q147_21, q147_22, q147_23, q147_24, q147_25, q147_26, q147_29, q147_32, q147_35, q147_37, q147_38, q147_39, q147_42, q147_43, q147_44, q147_47, q147_50, q147_51, q147_52, q147_55, q147_58, q147_59, q147_62, q147_63, q147_64, q147_65, q147_68, q147_70, q147_71, q147_72, q147_75, q147_76, q147_77, q147_79, q147_82, q147_84, q147_85, q147_86, q147_89, q147_90, q147_91, q147_93, q147_94, q147_97, q147_99, q147_101, q147_102, q147_103, q147_104, q147_105, q147_108, q147_110, q147_112, q147_113, q147_114, q147_115, q147_116, q147_119, q147_121, q147_123, q147_124, q147_125, q147_126, q147_127, q147_130, q147_131, q147_132, q147_133, q147_134, q147_135, q147_136, q147_137, q147_140, q147_141, q147_142, hF, eq_true hx, eq_false hy, zCall_some, Option.toList, List.cons_append, List.nil_append, zb_0, zb_1, zem, z01, z11, nI_add, ↓reduceIte, not_true_eq_false, not_false_eq_true, n0T, n1F, n11T, true_or, or_true, false_or]
  · rw [if_neg (fun q => hx q.1)]
    refine ⟨f, a, ?_, hR, MFW.rf⟩
    simp only [q147_0, q147_1, q147_2, q147_5, q147_8, q147_9, q147_10, q147_13, q147_16, q147_17, q147_18, q147_21, q147_22, q147_23, q147_24, q147_25, q147_26, q147_29, q147_32, q147_35, q147_37, q147_38, q147_39, q147_42, q147_43, q147_44, q147_47, q147_50, q147_51, q147_52, q147_55, q147_58, q147_59, q147_62, q147_63, q147_64, q147_65, q147_68, q147_70, q147_71, q147_72, q147_75, q147_76, q147_77, q147_79, q147_82, q147_84, q147_85, q147_86, q147_89, q147_90, q147_91, q147_93, q147_94, q147_97, q147_99, q147_101, q147_102, q147_103, q147_104, q147_105, q147_108, q147_110, q147_112, q147_113, q147_114, q147_115, q147_116, q147_119, q147_121, q147_123, q147_124, q147_125, q147_126, q147_127, q147_130, q147_131, q147_132, q147_133, q147_134, q147_135, q147_136, q147_137, q147_140, q147_141, q147_142, hF, eq_false hx, zCall_some, Option.toList, List.cons_append, List.nil_append, zb_0, zb_1, zem, z01, z11, nI_add, ↓reduceIte, not_true_eq_false, not_false_eq_true, n0T, n1F, n11T, true_or, or_true, false_or]
