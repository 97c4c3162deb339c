/-! ===== the class: over, uneven, evenest ===== -/
theorem x_over {sc : Int32 × (Int32 → Int32)} {f : zF} {a : zA} {j : zJ} {d : Nat} {σ : Nat → Nat} {v n what : Int32} (hW : WR 1 σ f a) (hV : VS σ) : ∃ (f' : zF) (a' : zA), cf sc (d + 6) 70 [.ref 0, .int v, .int n, .int what] f a j = some (some (.int (sOver σ v n what)), f', a', j) ∧ FrT f f' a a' := by
  have hVR := hV.1.1
  have hn := hVR.1
  have hw3 := hV.1.2.2.2.2
  have hr3 := hV.1.2.2.2.1
  have hR : CR0 2 σ f a := hW.1
  rw [en70]
  unfold sOver
  by_cases hv : zHas v (σ 0)
  · by_cases hb : zBtw what 0 1
    · rw [if_pos ⟨hv, hb⟩]
      by_cases hm : zBtw n 1 12
      · obtain ⟨g, hg, rfl⟩ := zHas_of (by omega) hv
        obtain ⟨m, m1, m2, rfl⟩ := zBtw_of (by omega) (by omega) hm
        rw [if_pos hm, nI_clamp (n := g) (by omega), nI_clamp (n := m) (by omega)]
        have key := zLoopP (n := m) (g := fun s : (Nat × zF × zA) => rn sc (cf sc (d + 5)) 70 48 [.ref 0, .int (nI g), .int (nI m), .int what, .ref 2, .int (nI (ovF σ g (decide (what = nI 0)) s.1)), .int (nI s.1)] [] s.2.1 s.2.2 j) (P := fun i s => s.1 = i ∧ FrT f s.2.1 a s.2.2) (by
          intro i s hi hP
          obtain ⟨i', f1, a1⟩ := s
          obtain ⟨rfl, hF⟩ := hP
          dsimp only at hF hi
          have hW1 := hW.fr isW_1 hF
          have hT9 : decide (i' = 0) = true → TrOK σ (σ 3 + i') := fun q => by
            have q := of_decide_eq_true q
            rw [q]
            exact hV.2.1
          obtain ⟨f2, a2, t1, t2, t3, t4⟩ := m_workOut (sc := sc) (d := d + 1) (f := f1) (a := a1) (j := j) (c := 2) (w := σ 3 + i') (tr := decide (i' = 0)) isC_2 hVR (by omega) hr3 hW1.1 hT9
          refine ⟨(i' + 1, f2, a2), ⟨rfl, hF.tr ⟨t4, fun k hk => t3 k (by omega)⟩⟩, ?_⟩
          have c1 : ¬ nI m ≤ nI i' := nI_ge hi (by omega)
          have e7 : f1 2 7 = nI (σ 1) := hW1.2.1.1
          have e8 : f1 2 8 = nI (σ 3) := hW1.2.1.2.1
          have e9 : f1 2 9 = nI (σ 2) := hW1.2.1.2.2
          have ix : zIx 21 58 (nI g) := ix58 (by omega)
          have rg := t2.2.2.2.2.2.2.2.2.1 g hg
          have hng := m_nightHours (sc := sc) (d := d + 4) (j := j) (g := g) hVR (by omega) hT9 t2 hg
          have en : ovF σ g (decide (what = nI 0)) (i' + 1) = ovF σ g (decide (what = nI 0)) i' + (if decide (what = nI 0) = true then hvOf σ (σ 3 + i') (decide (i' = 0)) g else ngF σ (σ 3 + i') (decide (i' = 0)) g) := rfl
          dsimp only
          rw [q70_48, en]
          rcases Nat.eq_zero_or_pos i' with z | z
          · subst z
            rw [if_pos (by decide)] at t1
            by_cases h0 : what = nI 0
            · subst h0
              simp only [q70_0, q70_1, q70_4, q70_7, q70_9, q70_11, q70_12, q70_15, q70_18, q70_19, q70_20, q70_21, q70_24, q70_27, q70_28, q70_29, q70_30, q70_31, q70_33, q70_36, q70_39, q70_41, q70_42, q70_43, q70_45, q70_46, q70_50, q70_51, q70_54, q70_55, q70_58, q70_60, q70_62, q70_65, q70_67, q70_68, q70_70, q70_73, q70_75, q70_78, q70_80, q70_83, q70_84, q70_87, q70_88, q70_91, q70_93, q70_94, q70_97, q70_98, q70_101, q70_104, q70_105, q70_106, q70_109, q70_110, q70_113, q70_114, q70_117, q70_118, q70_120, q70_123, q70_126, q70_128, isC_2, c1, e7, e8, e9, t1, ix, rg, decide_true, zCall_some, Option.toList, List.cons_append, List.nil_append, zb_0, zb_1, zem, z01, z11, nI_add, ↓reduceIte, not_true_eq_false, not_false_eq_true, n0T, n1F, n11T, true_or, or_true, false_or]
            · have h0' : ¬ what = 0 := h0
              simp only [q70_0, q70_1, q70_4, q70_7, q70_9, q70_11, q70_12, q70_15, q70_18, q70_19, q70_20, q70_21, q70_24, q70_27, q70_28, q70_29, q70_30, q70_31, q70_33, q70_36, q70_39, q70_41, q70_42, q70_43, q70_45, q70_46, q70_50, q70_51, q70_54, q70_55, q70_58, q70_60, q70_62, q70_65, q70_67, q70_68, q70_70, q70_73, q70_75, q70_78, q70_80, q70_83, q70_84, q70_87, q70_88, q70_91, q70_93, q70_94, q70_97, q70_98, q70_101, q70_104, q70_105, q70_106, q70_109, q70_110, q70_113, q70_114, q70_117, q70_118, q70_120, q70_123, q70_126, q70_128, isC_2, c1, e7, e8, e9, t1, hng, h0, h0', decide_false, Bool.false_eq_true, zCall_some, Option.toList, List.cons_append, List.nil_append, zb_0, zb_1, zem, z01, z11, nI_add, ↓reduceIte, not_true_eq_false, not_false_eq_true, n0T, n1F, n11T, true_or, or_true, false_or]
          · have zi : ¬ i' = 0 := by omega
            have zn : ¬ nI i' = 0 := nI_ne0 z (by omega)
            rw [if_neg (by simp [zi])] at t1
            by_cases h0 : what = nI 0
            · subst h0
              simp only [q70_0, q70_1, q70_4, q70_7, q70_9, q70_11, q70_12, q70_15, q70_18, q70_19, q70_20, q70_21, q70_24, q70_27, q70_28, q70_29, q70_30, q70_31, q70_33, q70_36, q70_39, q70_41, q70_42, q70_43, q70_45, q70_46, q70_50, q70_51, q70_54, q70_55, q70_58, q70_60, q70_62, q70_65, q70_67, q70_68, q70_70, q70_73, q70_75, q70_78, q70_80, q70_83, q70_84, q70_87, q70_88, q70_91, q70_93, q70_94, q70_97, q70_98, q70_101, q70_104, q70_105, q70_106, q70_109, q70_110, q70_113, q70_114, q70_117, q70_118, q70_120, q70_123, q70_126, q70_128, isC_2, c1, e7, e8, e9, zn, t1, ix, rg, decide_true, zCall_some, Option.toList, List.cons_append, List.nil_append, zb_0, zb_1, zem, z01, z11, nI_add, ↓reduceIte, not_true_eq_false, not_false_eq_true, n0T, n1F, n11T, true_or, or_true, false_or]
            · have h0' : ¬ what = 0 := h0
              simp only [q70_0, q70_1, q70_4, q70_7, q70_9, q70_11, q70_12, q70_15, q70_18, q70_19, q70_20, q70_21, q70_24, q70_27, q70_28, q70_29, q70_30, q70_31, q70_33, q70_36, q70_39, q70_41, q70_42, q70_43, q70_45, q70_46, q70_50, q70_51, q70_54, q70_55, q70_58, q70_60, q70_62, q70_65, q70_67, q70_68, q70_70, q70_73, q70_75, q70_78, q70_80, q70_83, q70_84, q70_87, q70_88, q70_91, q70_93, q70_94, q70_97, q70_98, q70_101, q70_104, q70_105, q70_106, q70_109, q70_110, q70_113, q70_114, q70_117, q70_118, q70_120, q70_123, q70_126, q70_128, isC_2, c1, e7, e8, e9, zn, t1, hng, h0, h0', decide_false, Bool.false_eq_true, zCall_some, Option.toList, List.cons_append, List.nil_append, zb_0, zb_1, zem, z01, z11, nI_add, ↓reduceIte, not_true_eq_false, not_false_eq_true, n0T, n1F, n11T, true_or, or_true, false_or]) (0, f, a) ⟨rfl, FrT.rf⟩
        obtain ⟨⟨i, f1, a1⟩, ⟨hi, hF⟩, e⟩ := key
        dsimp only at hF e hi
        subst hi
        refine ⟨f1, a1, ?_, hF⟩
        have c1 : nI i ≤ nI i := nI_le (Nat.le_refl _) (by omega)
        simp only [q70_0, q70_1, q70_4, q70_7, q70_9, q70_11, q70_12, q70_15, q70_18, q70_19, q70_20, q70_21, q70_24, q70_27, q70_28, q70_29, q70_30, q70_31, q70_33, q70_36, q70_39, q70_41, q70_42, q70_43, q70_45, q70_46, q70_50, q70_51, q70_54, q70_55, q70_58, q70_60, q70_62, q70_65, q70_67, q70_68, q70_70, q70_73, q70_75, q70_78, q70_80, q70_83, q70_84, q70_87, q70_88, q70_91, q70_93, q70_94, q70_97, q70_98, q70_101, q70_104, q70_105, q70_106, q70_109, q70_110, q70_113, q70_114, q70_117, q70_118, q70_120, q70_123, q70_126, q70_128, isW_1, isC_2, Nat.reduceAdd, m_hasField isC_2 hR.1 hn, m_isWithin, eq_true hv, eq_true hb, eq_true hm, zCall_some, Option.toList, List.cons_append, List.nil_append, zb_0, zb_1, zem, z01, z11, nI_add, ↓reduceIte, not_true_eq_false, not_false_eq_true, n0T, n1F, n11T, true_or, or_true, false_or]
        refine Eq.trans (show _ = _ from e) ?_
        simp only [q70_48, q70_50, q70_51, q70_126, q70_128, c1, zCall_some, Option.toList, List.cons_append, List.nil_append, zb_0, zb_1, zem, z01, z11, nI_add, ↓reduceIte, not_true_eq_false, not_false_eq_true, n0T, n1F, n11T, true_or, or_true, false_or]
      · rw [if_neg hm]
        refine ⟨f, a, ?_, FrT.rf⟩
        simp only [q70_0, q70_1, q70_4, q70_7, q70_9, q70_11, q70_12, q70_15, q70_18, q70_19, q70_20, q70_21, q70_24, q70_27, q70_28, q70_29, q70_30, q70_31, q70_33, q70_36, q70_39, q70_41, q70_42, q70_43, q70_45, q70_46, q70_50, q70_51, q70_54, q70_55, q70_58, q70_60, q70_62, q70_65, q70_67, q70_68, q70_70, q70_73, q70_75, q70_78, q70_80, q70_83, q70_84, q70_87, q70_88, q70_91, q70_93, q70_94, q70_97, q70_98, q70_101, q70_104, q70_105, q70_106, q70_109, q70_110, q70_113, q70_114, q70_117, q70_118, q70_120, q70_123, q70_126, q70_128, isW_1, isC_2, Nat.reduceAdd, m_hasField isC_2 hR.1 hn, m_isWithin, eq_true hv, eq_true hb, eq_false hm, zCall_some, Option.toList, List.cons_append, List.nil_append, zb_0, zb_1, zem, z01, z11, nI_add, ↓reduceIte, not_true_eq_false, not_false_eq_true, n0T, n1F, n11T, true_or, or_true, false_or]
    · rw [if_neg (fun q => hb q.2)]
      refine ⟨f, a, ?_, FrT.rf⟩
      simp only [q70_0, q70_1, q70_4, q70_7, q70_9, q70_11, q70_12, q70_15, q70_18, q70_19, q70_20, q70_21, q70_24, q70_27, q70_28, q70_29, q70_30, q70_31, q70_33, q70_36, q70_39, q70_41, q70_42, q70_43, q70_45, q70_46, q70_50, q70_51, q70_54, q70_55, q70_58, q70_60, q70_62, q70_65, q70_67, q70_68, q70_70, q70_73, q70_75, q70_78, q70_80, q70_83, q70_84, q70_87, q70_88, q70_91, q70_93, q70_94, q70_97, q70_98, q70_101, q70_104, q70_105, q70_106, q70_109, q70_110, q70_113, q70_114, q70_117, q70_118, q70_120, q70_123, q70_126, q70_128, isW_1, isC_2, Nat.reduceAdd, m_hasField isC_2 hR.1 hn, m_isWithin, eq_true hv, eq_false hb, zCall_some, Option.toList, List.cons_append, List.nil_append, zb_0, zb_1, zem, z01, z11, nI_add, ↓reduceIte, not_true_eq_false, not_false_eq_true, n0T, n1F, n11T, true_or, or_true, false_or]
  · rw [if_neg (fun q => hv q.1)]
    refine ⟨f, a, ?_, FrT.rf⟩
    simp only [q70_0, q70_1, q70_4, q70_7, q70_9, q70_11, q70_12, q70_15, q70_18, q70_19, q70_20, q70_21, q70_24, q70_27, q70_28, q70_29, q70_30, q70_31, q70_33, q70_36, q70_39, q70_41, q70_42, q70_43, q70_45, q70_46, q70_50, q70_51, q70_54, q70_55, q70_58, q70_60, q70_62, q70_65, q70_67, q70_68, q70_70, q70_73, q70_75, q70_78, q70_80, q70_83, q70_84, q70_87, q70_88, q70_91, q70_93, q70_94, q70_97, q70_98, q70_101, q70_104, q70_105, q70_106, q70_109, q70_110, q70_113, q70_114, q70_117, q70_118, q70_120, q70_123, q70_126, q70_128, isW_1, isC_2, Nat.reduceAdd, m_hasField isC_2 hR.1 hn, m_isWithin, eq_false hv, zCall_some, Option.toList, List.cons_append, List.nil_append, zb_0, zb_1, zem, z01, z11, nI_add, ↓reduceIte, not_true_eq_false, not_false_eq_true, n0T, n1F, n11T, true_or, or_true, false_or]
theorem un_1 {sc : Int32 × (Int32 → Int32)} {F : zCF} {f : zF} {j : zJ} {v1 v2 v5 v6 : Value} : ∀ (m i : Nat) (a : zA), i + m = 8 → (∀ q, q < i → a 64 (nI q) = nI 0) →
    ∃ a' : zA, rn sc F 97 11 [.ref 0, v1, v2, .ref 2, .int (nI i), v5, v6] [] f a j = rn sc F 97 32 [.ref 0, v1, v2, .ref 2, .int (nI 8), v5, v6] [] f a' j ∧ (∀ q, q < 8 → a' 64 (nI q) = nI 0) ∧ ∀ k, k ≠ 64 → a' k = a k := by
  intro m
  induction m with
  | zero =>
    intro i a hi hL
    have hi : i = 8 := by omega
    subst hi
    have c1 : nI 8 ≤ nI 8 := nI_le (Nat.le_refl _) (by omega)
    refine ⟨a, ?_, hL, fun _ _ => rfl⟩
    simp only [q97_11, q97_13, q97_15, c1, zCall_some, Option.toList, List.cons_append, List.nil_append, zb_0, zb_1, zem, z01, z11, nI_add, ↓reduceIte, not_true_eq_false, not_false_eq_true, n0T, n1F, n11T, true_or, or_true, false_or]
  | succ m ih =>
    intro i a hi hL
    have c1 : ¬ nI 8 ≤ nI i := nI_ge (by omega) (by omega)
    have ix : zIx 21 64 (nI i) := ix64 (by omega)
    obtain ⟨a', h1, h2, h3⟩ := ih (i + 1) (zuA a 64 (nI i) (nI 0)) (by omega) (fun q hq => by
      by_cases e : q = i
      · rw [e]; exact zuA_eq
      · rw [zuA_ni (nI_ne (by omega) (by omega) e)]; exact hL q (by omega))
    refine ⟨a', ?_, h2, fun k hk => by rw [h3 k hk, zuA_nk hk]⟩
    rw [← h1, q97_11]
    simp only [q97_0, q97_1, q97_4, q97_7, q97_8, q97_9, q97_13, q97_15, q97_18, q97_19, q97_22, q97_24, q97_25, q97_26, q97_29, q97_33, q97_35, q97_37, q97_38, q97_41, q97_42, q97_45, q97_46, q97_47, q97_50, q97_52, q97_53, q97_54, q97_57, q97_58, q97_59, q97_62, q97_63, q97_65, q97_67, q97_68, q97_71, q97_74, q97_75, q97_78, q97_80, q97_81, q97_82, q97_83, q97_86, q97_88, q97_91, q97_92, q97_93, q97_96, q97_99, q97_102, q97_105, q97_107, q97_109, q97_111, q97_113, q97_114, q97_116, q97_118, q97_119, q97_122, q97_125, q97_126, q97_128, q97_131, q97_134, q97_136, q97_138, q97_141, q97_142, q97_145, q97_147, q97_148, q97_151, q97_153, q97_154, q97_157, q97_159, q97_160, q97_163, q97_165, q97_167, q97_169, q97_172, q97_173, q97_176, q97_178, q97_179, q97_182, q97_184, q97_185, q97_188, q97_190, q97_191, q97_194, q97_196, q97_199, q97_202, q97_204, q97_206, q97_207, c1, ix, zCall_some, Option.toList, List.cons_append, List.nil_append, zb_0, zb_1, zem, z01, z11, nI_add, ↓reduceIte, not_true_eq_false, not_false_eq_true, n0T, n1F, n11T, true_or, or_true, false_or]
theorem un_2 {sc : Int32 × (Int32 → Int32)} {d w : Nat} {f : zF} {j : zJ} {σ x : Nat → Nat} {v1 v2 v4 v6 : Value} (hV : VR σ) (hw : w ≤ 1010) (hf : f 2 6 = nI (σ 0)) : ∀ (m g : Nat) (a : zA), g + m = σ 0 → TuO σ w false f a → (∀ q, q < σ 0 → a 64 (nI q) = nI (if q < g then x q + ngF σ w false q else x q)) →
    ∃ a' : zA, rn sc (cf sc (d + 1)) 97 65 [.ref 0, v1, v2, .ref 2, v4, .int (nI g), v6] [] f a j = rn sc (cf sc (d + 1)) 97 99 [.ref 0, v1, v2, .ref 2, v4, .int (nI (σ 0)), v6] [] f a' j ∧ (∀ q, q < σ 0 → a' 64 (nI q) = nI (x q + ngF σ w false q)) ∧ ∀ k, k ≠ 64 → a' k = a k := by
  have hn := hV.1
  intro m
  induction m with
  | zero =>
    intro g a hg hT hA
    have e : g = σ 0 := by omega
    subst e
    have c1 : nI (σ 0) ≤ nI (σ 0) := nI_le (Nat.le_refl _) (by omega)
    refine ⟨a, ?_, fun q hq => by have := hA q hq; rwa [if_pos hq] at this, fun _ _ => rfl⟩
    simp only [q97_65, q97_67, q97_68, q97_71, isC_2, hf, c1, zCall_some, Option.toList, List.cons_append, List.nil_append, zb_0, zb_1, zem, z01, z11, nI_add, ↓reduceIte, not_true_eq_false, not_false_eq_true, n0T, n1F, n11T, true_or, or_true, false_or]
  | succ m ih =>
    intro g a hg hT hA
    have hgn : g < σ 0 := by omega
    have c1 : ¬ nI (σ 0) ≤ nI g := nI_ge hgn (by omega)
    have ix : zIx 21 64 (nI g) := ix64 (by omega)
    have e1 : a 64 (nI g) = nI (x g) := by rw [hA g hgn, if_neg (by omega)]
    have hT1 : TuO σ w false f (zuA a 64 (nI g) (nI (x g + ngF σ w false g))) := by
      unfold TuO zLst at hT ⊢
      rw [zuA_nk (by omega), zuA_nk (by omega), zuA_nk (by omega), zuA_nk (by omega), zuA_nk (by omega), zuA_nk (by omega), zuA_nk (by omega)]
      exact hT
    obtain ⟨a', h1, h2, h3⟩ := ih (g + 1) (zuA a 64 (nI g) (nI (x g + ngF σ w false g))) (by omega) hT1 (fun q hq => by
      by_cases e : q = g
      · rw [e, if_pos (by omega)]; exact zuA_eq
      · rw [zuA_ni (nI_ne (by omega) (by omega) e), hA q hq]
        by_cases z : q < g
        · rw [if_pos z, if_pos (by omega)]
        · rw [if_neg z, if_neg (by omega)])
    refine ⟨a', ?_, h2, fun k hk => by rw [h3 k hk, zuA_nk hk]⟩
    rw [← h1, q97_65]
    simp only [q97_0, q97_1, q97_4, q97_7, q97_8, q97_9, q97_11, q97_13, q97_15, q97_18, q97_19, q97_22, q97_24, q97_25, q97_26, q97_29, q97_32, q97_33, q97_35, q97_37, q97_38, q97_41, q97_42, q97_45, q97_46, q97_47, q97_50, q97_52, q97_53, q97_54, q97_57, q97_58, q97_59, q97_62, q97_63, q97_67, q97_68, q97_71, q97_74, q97_75, q97_78, q97_80, q97_81, q97_82, q97_83, q97_86, q97_88, q97_91, q97_92, q97_93, q97_96, q97_102, q97_105, q97_107, q97_109, q97_111, q97_113, q97_114, q97_116, q97_118, q97_119, q97_122, q97_125, q97_126, q97_128, q97_131, q97_134, q97_136, q97_138, q97_141, q97_142, q97_145, q97_147, q97_148, q97_151, q97_153, q97_154, q97_157, q97_159, q97_160, q97_163, q97_165, q97_167, q97_169, q97_172, q97_173, q97_176, q97_178, q97_179, q97_182, q97_184, q97_185, q97_188, q97_190, q97_191, q97_194, q97_196, q97_199, q97_202, q97_204, q97_206, q97_207, isC_2, hf, c1, ix, e1, m_nightHours hV hw (fun q => by cases q) hT hgn, zCall_some, Option.toList, List.cons_append, List.nil_append, zb_0, zb_1, zem, z01, z11, nI_add, ↓reduceIte, not_true_eq_false, not_false_eq_true, n0T, n1F, n11T, true_or, or_true, false_or]
def oI (o : Option Nat) : Int32 := match o with
  | none => -5
  | some y => nI y
theorem mxO_s (P : Nat → Bool) (x : Nat → Nat) (g : Nat) : mxO P x (g + 1) = if P g = true then some (match mxO P x g with | none => x g | some y => if y < x g then x g else y) else mxO P x g := rfl
theorem mnO_s (P : Nat → Bool) (x : Nat → Nat) (g : Nat) : mnO P x (g + 1) = if P g = true then some (match mnO P x g with | none => x g | some y => if x g < y then x g else y) else mnO P x g := rfl
theorem mxO_le {P : Nat → Bool} {x : Nat → Nat} {B : Nat} : ∀ n, (∀ g, g < n → x g ≤ B) → ∀ y, mxO P x n = some y → y ≤ B
  | 0, h, y, e => by cases e
  | n + 1, h, y, e => by
    have ih := mxO_le (P := P) (x := x) (B := B) n (fun g hg => h g (by omega))
    have h9 := h n (by omega)
    rw [mxO_s] at e
    split at e
    · cases hm : mxO P x n with
      | none => rw [hm] at e; cases e; exact h9
      | some z =>
        rw [hm] at e
        dsimp only at e
        split at e
        · cases e; exact h9
        · cases e; exact ih _ hm
    · exact ih y e
theorem mn_mx {P : Nat → Bool} {x : Nat → Nat} : ∀ n, (mxO P x n = none ∧ mnO P x n = none) ∨ ∃ y z, mxO P x n = some y ∧ mnO P x n = some z ∧ z ≤ y
  | 0 => Or.inl ⟨rfl, rfl⟩
  | n + 1 => by
    have ih := mn_mx (P := P) (x := x) n
    rw [mxO_s, mnO_s]
    by_cases hp : P n = true
    · rw [if_pos hp, if_pos hp]
      rcases ih with ⟨h1, h2⟩ | ⟨y, z, h1, h2, h3⟩
      · rw [h1, h2]
        exact Or.inr ⟨_, _, rfl, rfl, Nat.le_refl _⟩
      · rw [h1, h2]
        refine Or.inr ⟨_, _, rfl, rfl, ?_⟩
        dsimp only
        split <;> split <;> omega
    · rw [if_neg hp, if_neg hp]
      exact ih
theorem un_3 {sc : Int32 × (Int32 → Int32)} {d : Nat} {f : zF} {a : zA} {j : zJ} {σ x : Nat → Nat} {v1 v2 : Value} (hV : VR σ) (hR : CR0 2 σ f a) (hx : ∀ g, g < σ 0 → x g ≤ 2000) (hA : ∀ q, q < σ 0 → a 64 (nI q) = nI (x q)) : ∀ (m g : Nat), g + m = σ 0 →
    rn sc (cf sc (d + 2)) 97 116 [.ref 0, v1, v2, .ref 2, .int (oI (mxO (prB σ) x g)), .int (oI (mnO (prB σ) x g)), .int (nI g)] [] f a j = some (some (.int (nI ((mxO (prB σ) x (σ 0)).getD 0 - (mnO (prB σ) x (σ 0)).getD 0))), f, a, j) := by
  have hn := hV.1
  have hf : f 2 6 = nI (σ 0) := hR.1
  intro m
  induction m with
  | zero =>
    intro g hg
    have e : g = σ 0 := by omega
    subst e
    have c1 : nI (σ 0) ≤ nI (σ 0) := nI_le (Nat.le_refl _) (by omega)
    rcases mn_mx (P := prB σ) (x := x) (σ 0) with ⟨h1, h2⟩ | ⟨y, z, h1, h2, h3⟩
    · rw [h1, h2]
      have e5 : oI none - oI none = nI 0 := by decide
      simp only [q97_116, q97_118, q97_119, q97_122, q97_202, q97_204, q97_206, q97_207, isC_2, hf, c1, e5, Option.getD_none, Nat.sub_self, zCall_some, Option.toList, List.cons_append, List.nil_append, zb_0, zb_1, zem, z01, z11, nI_add, ↓reduceIte, not_true_eq_false, not_false_eq_true, n0T, n1F, n11T, true_or, or_true, false_or]
    · rw [h1, h2]
      have e5 : oI (some y) - oI (some z) = nI (y - z) := pk_sub h3
      simp only [q97_116, q97_118, q97_119, q97_122, q97_202, q97_204, q97_206, q97_207, isC_2, hf, c1, e5, Option.getD_some, zCall_some, Option.toList, List.cons_append, List.nil_append, zb_0, zb_1, zem, z01, z11, nI_add, ↓reduceIte, not_true_eq_false, not_false_eq_true, n0T, n1F, n11T, true_or, or_true, false_or]
  | succ m ih =>
    intro g hg
    have hgn : g < σ 0 := by omega
    have c1 : ¬ nI (σ 0) ≤ nI g := nI_ge hgn (by omega)
    have ix : zIx 21 64 (nI g) := ix64 (by omega)
    rw [← ih (g + 1) (by omega), q97_116, mxO_s, mnO_s]
    by_cases haw : σ (32 + g) = 1
    · have hp : ¬ prB σ g = true := by unfold prB; simp [haw]
      rw [if_neg hp, if_neg hp]
      simp only [q97_0, q97_1, q97_4, q97_7, q97_8, q97_9, q97_11, q97_13, q97_15, q97_18, q97_19, q97_22, q97_24, q97_25, q97_26, q97_29, q97_32, q97_33, q97_35, q97_37, q97_38, q97_41, q97_42, q97_45, q97_46, q97_47, q97_50, q97_52, q97_53, q97_54, q97_57, q97_58, q97_59, q97_62, q97_63, q97_65, q97_67, q97_68, q97_71, q97_74, q97_75, q97_78, q97_80, q97_81, q97_82, q97_83, q97_86, q97_88, q97_91, q97_92, q97_93, q97_96, q97_99, q97_102, q97_105, q97_107, q97_109, q97_111, q97_113, q97_114, q97_118, q97_119, q97_122, q97_125, q97_126, q97_128, q97_131, q97_134, q97_136, q97_138, q97_141, q97_142, q97_145, q97_147, q97_148, q97_151, q97_153, q97_154, q97_157, q97_159, q97_160, q97_163, q97_165, q97_167, q97_169, q97_172, q97_173, q97_176, q97_178, q97_179, q97_182, q97_184, q97_185, q97_188, q97_190, q97_191, q97_194, q97_196, q97_199, q97_204, q97_206, q97_207, isC_2, hf, c1, m_isAway isC_2 hV hR hgn, haw, zCall_some, Option.toList, List.cons_append, List.nil_append, zb_0, zb_1, zem, z01, z11, nI_add, ↓reduceIte, not_true_eq_false, not_false_eq_true, n0T, n1F, n11T, true_or, or_true, false_or]
    · have hp : prB σ g = true := by unfold prB; simp [haw, hgn]
      rw [if_pos hp, if_pos hp]
      rcases mn_mx (P := prB σ) (x := x) g with ⟨h1, h2⟩ | ⟨y, z, h1, h2, h3⟩
      · rw [h1, h2]
        have e5 : oI none = -5 := rfl
        have e6 : oI (some (x g)) = nI (x g) := rfl
        simp only [q97_0, q97_1, q97_4, q97_7, q97_8, q97_9, q97_11, q97_13, q97_15, q97_18, q97_19, q97_22, q97_24, q97_25, q97_26, q97_29, q97_32, q97_33, q97_35, q97_37, q97_38, q97_41, q97_42, q97_45, q97_46, q97_47, q97_50, q97_52, q97_53, q97_54, q97_57, q97_58, q97_59, q97_62, q97_63, q97_65, q97_67, q97_68, q97_71, q97_74, q97_75, q97_78, q97_80, q97_81, q97_82, q97_83, q97_86, q97_88, q97_91, q97_92, q97_93, q97_96, q97_99, q97_102, q97_105, q97_107, q97_109, q97_111, q97_113, q97_114, q97_118, q97_119, q97_122, q97_125, q97_126, q97_128, q97_131, q97_134, q97_136, q97_138, q97_141, q97_142, q97_145, q97_147, q97_148, q97_151, q97_153, q97_154, q97_157, q97_159, q97_160, q97_163, q97_165, q97_167, q97_169, q97_172, q97_173, q97_176, q97_178, q97_179, q97_182, q97_184, q97_185, q97_188, q97_190, q97_191, q97_194, q97_196, q97_199, q97_204, q97_206, q97_207, isC_2, hf, c1, ix, hA g hgn, m_isAway isC_2 hV hR hgn, haw, e5, e6, zCall_some, Option.toList, List.cons_append, List.nil_append, zb_0, zb_1, zem, z01, z11, nI_add, ↓reduceIte, not_true_eq_false, not_false_eq_true, n0T, n1F, n11T, true_or, or_true, false_or]
      · rw [h1, h2]
        have hy := mxO_le (P := prB σ) (x := x) g (fun q hq => hx q (by omega)) y h1
        have hxg := hx g hgn
        have e5 : ∀ q, oI (some q) = nI q := fun _ => rfl
        have k1 : ¬ nI y = -5 := nI_n5 (by omega)
        have k2 : ¬ nI z = -5 := nI_n5 (by omega)
        have x1 : (nI y < nI (x g)) = (y < x g) := propext (nI_ltI (by omega) (by omega))
        have x2 : (nI (x g) < nI z) = (x g < z) := propext (nI_ltI (by omega) (by omega))
        simp only [q97_0, q97_1, q97_4, q97_7, q97_8, q97_9, q97_11, q97_13, q97_15, q97_18, q97_19, q97_22, q97_24, q97_25, q97_26, q97_29, q97_32, q97_33, q97_35, q97_37, q97_38, q97_41, q97_42, q97_45, q97_46, q97_47, q97_50, q97_52, q97_53, q97_54, q97_57, q97_58, q97_59, q97_62, q97_63, q97_65, q97_67, q97_68, q97_71, q97_74, q97_75, q97_78, q97_80, q97_81, q97_82, q97_83, q97_86, q97_88, q97_91, q97_92, q97_93, q97_96, q97_99, q97_102, q97_105, q97_107, q97_109, q97_111, q97_113, q97_114, q97_118, q97_119, q97_122, q97_125, q97_126, q97_128, q97_131, q97_134, q97_136, q97_138, q97_141, q97_142, q97_145, q97_147, q97_148, q97_151, q97_153, q97_154, q97_157, q97_159, q97_160, q97_163, q97_165, q97_167, q97_169, q97_172, q97_173, q97_176, q97_178, q97_179, q97_182, q97_184, q97_185, q97_188, q97_190, q97_191, q97_194, q97_196, q97_199, q97_204, q97_206, q97_207, isC_2, hf, c1, ix, hA g hgn, m_isAway isC_2 hV hR hgn, haw, e5, k1, k2, m_max, m_min, x1, x2, zCall_some, Option.toList, List.cons_append, List.nil_append, zb_0, zb_1, zem, z01, z11, nI_add, ↓reduceIte, not_true_eq_false, not_false_eq_true, n0T, n1F, n11T, true_or, or_true, false_or]
        congr 2
        by_cases q1 : y < x g <;> by_cases q2 : x g < z <;> simp [q1, q2]
theorem un_le {σ : Nat → Nat} (hV : VR σ) {g : Nat} (hg : g < σ 0) : ∀ m, unF σ g m ≤ 97 * m
  | 0 => Nat.le_refl _
  | m + 1 => by
    have ih := un_le hV hg m
    have := ng_97 hV (w := σ 3 + m) (tr := false) (fun q => by cases q) hg
    show unF σ g m + ngF σ (σ 3 + m) false g ≤ _
    omega
