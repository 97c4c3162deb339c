/-! ===== the class: over, uneven, evenest ===== -/
theorem x_over {sc : Int32 × (Int32 → Int32)} {f : zF} {a : zA} {j : zJ} {d : Nat} {σ : Nat → Nat} {v n what : Int32} (hW : WR 1 σ f a) (hV : VS σ) : ∃ (f' : zF) (a' : zA), cf sc (d + 6) 74 [.ref 0, .int v, .int n, .int what] f a j = some (some (.int (sOver σ v n what)), f', a', j) ∧ FrT f f' a a' := by
  have hVR := hV.1.1
  have hn := hVR.1
  have hw3 := hV.1.2.2.2.2
  have hr3 := hV.1.2.2.2.1
  have hR : CR0 2 σ f a := hW.1
  rw [en74]
  unfold sOver
  by_cases hv : zHas v (σ 0)
  · by_cases hb : zBtw what 0 1
    · rw [if_pos ⟨hv, hb⟩]
      by_cases hm : zBtw n 1 12
      · obtain ⟨g, hg, rfl⟩ := zHas_of (by omega) hv
        obtain ⟨m, m1, m2, rfl⟩ := zBtw_of (by omega) (by omega) hm
        rw [if_pos hm, nI_clamp (n := g) (by omega), nI_clamp (n := m) (by omega)]
        have key := zLoopP (n := m) (g := fun s : (Nat × zF × zA) => rn sc (cf sc (d + 5)) 74 48 [.ref 0, .int (nI g), .int (nI m), .int what, .ref 2, .int (nI (ovF σ g (decide (what = nI 0)) s.1)), .int (nI s.1)] [] s.2.1 s.2.2 j) (P := fun i s => s.1 = i ∧ FrT f s.2.1 a s.2.2) (by
          intro i s hi hP
          obtain ⟨i', f1, a1⟩ := s
          obtain ⟨rfl, hF⟩ := hP
          dsimp only at hF hi
          have hW1 := hW.fr isW_1 hF
          have hT9 : decide (i' = 0) = true → TrOK σ (σ 3 + i') := fun q => by
            have q := of_decide_eq_true q
            rw [q]
            exact hV.2.1
          obtain ⟨f2, a2, t1, t2, t3, t4⟩ := m_workOut (sc := sc) (d := d) (f := f1) (a := a1) (j := j) (c := 2) (w := σ 3 + i') (tr := decide (i' = 0)) isC_2 hVR (by omega) hr3 hW1.1 hT9
          refine ⟨(i' + 1, f2, a2), ⟨rfl, hF.tr ⟨t4, fun k hk => t3 k (by omega)⟩⟩, ?_⟩
          have c1 : ¬ nI m ≤ nI i' := nI_ge hi (by omega)
          have e7 : f1 2 7 = nI (σ 1) := hW1.2.1.1
          have e8 : f1 2 8 = nI (σ 3) := hW1.2.1.2.1
          have e9 : f1 2 9 = nI (σ 2) := hW1.2.1.2.2
          have hng := m_nightHours (sc := sc) (d := d) (j := j) (g := g) hVR (by omega) hT9 t2 hg
          have en : ovF σ g (decide (what = nI 0)) (i' + 1) = ovF σ g (decide (what = nI 0)) i' + (if decide (what = nI 0) = true then hvOf σ (σ 3 + i') (decide (i' = 0)) g else ngF σ (σ 3 + i') (decide (i' = 0)) g) := rfl
          dsimp only
          rw [q74_48, en]
          rcases Nat.eq_zero_or_pos i' with z | z
          · subst z
            rw [if_pos (by decide)] at t1
            by_cases h0 : what = nI 0
            · subst h0
              simp only [q74_0, q74_1, q74_4, q74_7, q74_9, q74_11, q74_12, q74_15, q74_18, q74_19, q74_20, q74_21, q74_24, q74_27, q74_28, q74_29, q74_30, q74_31, q74_33, q74_36, q74_39, q74_41, q74_42, q74_43, q74_45, q74_46, q74_50, q74_51, q74_54, q74_55, q74_58, q74_60, q74_62, q74_65, q74_67, q74_68, q74_70, q74_73, q74_75, q74_78, q74_80, q74_83, q74_84, q74_87, q74_88, q74_91, q74_93, q74_94, q74_97, q74_98, q74_101, q74_102, q74_105, q74_108, q74_109, q74_112, q74_113, q74_116, q74_117, q74_119, q74_122, q74_125, q74_127, isC_2, c1, e7, e8, e9, t1, m_hvOf hVR t2 hg, decide_true, zCall_some, Option.toList, List.cons_append, List.nil_append, zb_0, zb_1, zem, z01, z11, nI_add, ↓reduceIte, not_true_eq_false, not_false_eq_true, n0T, n1F, n11T, true_or, or_true, false_or]
            · have h0' : ¬ what = 0 := h0
              simp only [q74_0, q74_1, q74_4, q74_7, q74_9, q74_11, q74_12, q74_15, q74_18, q74_19, q74_20, q74_21, q74_24, q74_27, q74_28, q74_29, q74_30, q74_31, q74_33, q74_36, q74_39, q74_41, q74_42, q74_43, q74_45, q74_46, q74_50, q74_51, q74_54, q74_55, q74_58, q74_60, q74_62, q74_65, q74_67, q74_68, q74_70, q74_73, q74_75, q74_78, q74_80, q74_83, q74_84, q74_87, q74_88, q74_91, q74_93, q74_94, q74_97, q74_98, q74_101, q74_102, q74_105, q74_108, q74_109, q74_112, q74_113, q74_116, q74_117, q74_119, q74_122, q74_125, q74_127, isC_2, c1, e7, e8, e9, t1, hng, h0, h0', decide_false, Bool.false_eq_true, zCall_some, Option.toList, List.cons_append, List.nil_append, zb_0, zb_1, zem, z01, z11, nI_add, ↓reduceIte, not_true_eq_false, not_false_eq_true, n0T, n1F, n11T, true_or, or_true, false_or]
          · have zi : ¬ i' = 0 := by omega
            have zn : ¬ nI i' = 0 := nI_ne0 z (by omega)
            rw [if_neg (by simp [zi])] at t1
            by_cases h0 : what = nI 0
            · subst h0
              simp only [q74_0, q74_1, q74_4, q74_7, q74_9, q74_11, q74_12, q74_15, q74_18, q74_19, q74_20, q74_21, q74_24, q74_27, q74_28, q74_29, q74_30, q74_31, q74_33, q74_36, q74_39, q74_41, q74_42, q74_43, q74_45, q74_46, q74_50, q74_51, q74_54, q74_55, q74_58, q74_60, q74_62, q74_65, q74_67, q74_68, q74_70, q74_73, q74_75, q74_78, q74_80, q74_83, q74_84, q74_87, q74_88, q74_91, q74_93, q74_94, q74_97, q74_98, q74_101, q74_102, q74_105, q74_108, q74_109, q74_112, q74_113, q74_116, q74_117, q74_119, q74_122, q74_125, q74_127, isC_2, c1, e7, e8, e9, zn, t1, m_hvOf hVR t2 hg, decide_true, zCall_some, Option.toList, List.cons_append, List.nil_append, zb_0, zb_1, zem, z01, z11, nI_add, ↓reduceIte, not_true_eq_false, not_false_eq_true, n0T, n1F, n11T, true_or, or_true, false_or]
            · have h0' : ¬ what = 0 := h0
              simp only [q74_0, q74_1, q74_4, q74_7, q74_9, q74_11, q74_12, q74_15, q74_18, q74_19, q74_20, q74_21, q74_24, q74_27, q74_28, q74_29, q74_30, q74_31, q74_33, q74_36, q74_39, q74_41, q74_42, q74_43, q74_45, q74_46, q74_50, q74_51, q74_54, q74_55, q74_58, q74_60, q74_62, q74_65, q74_67, q74_68, q74_70, q74_73, q74_75, q74_78, q74_80, q74_83, q74_84, q74_87, q74_88, q74_91, q74_93, q74_94, q74_97, q74_98, q74_101, q74_102, q74_105, q74_108, q74_109, q74_112, q74_113, q74_116, q74_117, q74_119, q74_122, q74_125, q74_127, isC_2, c1, e7, e8, e9, zn, t1, hng, h0, h0', decide_false, Bool.false_eq_true, zCall_some, Option.toList, List.cons_append, List.nil_append, zb_0, zb_1, zem, z01, z11, nI_add, ↓reduceIte, not_true_eq_false, not_false_eq_true, n0T, n1F, n11T, true_or, or_true, false_or]) (0, f, a) ⟨rfl, FrT.rf⟩
        obtain ⟨⟨i, f1, a1⟩, ⟨hi, hF⟩, e⟩ := key
        dsimp only at hF e hi
        subst hi
        refine ⟨f1, a1, ?_, hF⟩
        have c1 : nI i ≤ nI i := nI_le (Nat.le_refl _) (by omega)
        simp only [q74_0, q74_1, q74_4, q74_7, q74_9, q74_11, q74_12, q74_15, q74_18, q74_19, q74_20, q74_21, q74_24, q74_27, q74_28, q74_29, q74_30, q74_31, q74_33, q74_36, q74_39, q74_41, q74_42, q74_43, q74_45, q74_46, q74_50, q74_51, q74_54, q74_55, q74_58, q74_60, q74_62, q74_65, q74_67, q74_68, q74_70, q74_73, q74_75, q74_78, q74_80, q74_83, q74_84, q74_87, q74_88, q74_91, q74_93, q74_94, q74_97, q74_98, q74_101, q74_102, q74_105, q74_108, q74_109, q74_112, q74_113, q74_116, q74_117, q74_119, q74_122, q74_125, q74_127, isW_1, isC_2, Nat.reduceAdd, m_hasField isC_2 hR.1 hn, m_isWithin, eq_true hv, eq_true hb, eq_true hm, zCall_some, Option.toList, List.cons_append, List.nil_append, zb_0, zb_1, zem, z01, z11, nI_add, ↓reduceIte, not_true_eq_false, not_false_eq_true, n0T, n1F, n11T, true_or, or_true, false_or]
        refine Eq.trans (show _ = _ from e) ?_
        simp only [q74_48, q74_50, q74_51, q74_125, q74_127, c1, zCall_some, Option.toList, List.cons_append, List.nil_append, zb_0, zb_1, zem, z01, z11, nI_add, ↓reduceIte, not_true_eq_false, not_false_eq_true, n0T, n1F, n11T, true_or, or_true, false_or]
      · rw [if_neg hm]
        refine ⟨f, a, ?_, FrT.rf⟩
        simp only [q74_0, q74_1, q74_4, q74_7, q74_9, q74_11, q74_12, q74_15, q74_18, q74_19, q74_20, q74_21, q74_24, q74_27, q74_28, q74_29, q74_30, q74_31, q74_33, q74_36, q74_39, q74_41, q74_42, q74_43, q74_45, q74_46, q74_50, q74_51, q74_54, q74_55, q74_58, q74_60, q74_62, q74_65, q74_67, q74_68, q74_70, q74_73, q74_75, q74_78, q74_80, q74_83, q74_84, q74_87, q74_88, q74_91, q74_93, q74_94, q74_97, q74_98, q74_101, q74_102, q74_105, q74_108, q74_109, q74_112, q74_113, q74_116, q74_117, q74_119, q74_122, q74_125, q74_127, isW_1, isC_2, Nat.reduceAdd, m_hasField isC_2 hR.1 hn, m_isWithin, eq_true hv, eq_true hb, eq_false hm, zCall_some, Option.toList, List.cons_append, List.nil_append, zb_0, zb_1, zem, z01, z11, nI_add, ↓reduceIte, not_true_eq_false, not_false_eq_true, n0T, n1F, n11T, true_or, or_true, false_or]
    · rw [if_neg (fun q => hb q.2)]
      refine ⟨f, a, ?_, FrT.rf⟩
      simp only [q74_0, q74_1, q74_4, q74_7, q74_9, q74_11, q74_12, q74_15, q74_18, q74_19, q74_20, q74_21, q74_24, q74_27, q74_28, q74_29, q74_30, q74_31, q74_33, q74_36, q74_39, q74_41, q74_42, q74_43, q74_45, q74_46, q74_50, q74_51, q74_54, q74_55, q74_58, q74_60, q74_62, q74_65, q74_67, q74_68, q74_70, q74_73, q74_75, q74_78, q74_80, q74_83, q74_84, q74_87, q74_88, q74_91, q74_93, q74_94, q74_97, q74_98, q74_101, q74_102, q74_105, q74_108, q74_109, q74_112, q74_113, q74_116, q74_117, q74_119, q74_122, q74_125, q74_127, isW_1, isC_2, Nat.reduceAdd, m_hasField isC_2 hR.1 hn, m_isWithin, eq_true hv, eq_false hb, zCall_some, Option.toList, List.cons_append, List.nil_append, zb_0, zb_1, zem, z01, z11, nI_add, ↓reduceIte, not_true_eq_false, not_false_eq_true, n0T, n1F, n11T, true_or, or_true, false_or]
  · rw [if_neg (fun q => hv q.1)]
    refine ⟨f, a, ?_, FrT.rf⟩
    simp only [q74_0, q74_1, q74_4, q74_7, q74_9, q74_11, q74_12, q74_15, q74_18, q74_19, q74_20, q74_21, q74_24, q74_27, q74_28, q74_29, q74_30, q74_31, q74_33, q74_36, q74_39, q74_41, q74_42, q74_43, q74_45, q74_46, q74_50, q74_51, q74_54, q74_55, q74_58, q74_60, q74_62, q74_65, q74_67, q74_68, q74_70, q74_73, q74_75, q74_78, q74_80, q74_83, q74_84, q74_87, q74_88, q74_91, q74_93, q74_94, q74_97, q74_98, q74_101, q74_102, q74_105, q74_108, q74_109, q74_112, q74_113, q74_116, q74_117, q74_119, q74_122, q74_125, q74_127, isW_1, isC_2, Nat.reduceAdd, m_hasField isC_2 hR.1 hn, m_isWithin, eq_false hv, zCall_some, Option.toList, List.cons_append, List.nil_append, zb_0, zb_1, zem, z01, z11, nI_add, ↓reduceIte, not_true_eq_false, not_false_eq_true, n0T, n1F, n11T, true_or, or_true, false_or]
theorem un_1 {sc : Int32 × (Int32 → Int32)} {F : zCF} {f : zF} {j : zJ} {v1 v2 v5 v6 : Value} : ∀ (m i : Nat) (a : zA), i + m = 8 → (∀ q, q < i → a 64 (nI q) = nI 0) →
    ∃ a' : zA, rn sc F 103 11 [.ref 0, v1, v2, .ref 2, .int (nI i), v5, v6] [] f a j = rn sc F 103 32 [.ref 0, v1, v2, .ref 2, .int (nI 8), v5, v6] [] f a' j ∧ (∀ q, q < 8 → a' 64 (nI q) = nI 0) ∧ ∀ k, k ≠ 64 → a' k = a k := by
  intro m
  induction m with
  | zero =>
    intro i a hi hL
    have hi : i = 8 := by omega
    subst hi
    have c1 : nI 8 ≤ nI 8 := nI_le (Nat.le_refl _) (by omega)
    refine ⟨a, ?_, hL, fun _ _ => rfl⟩
    simp only [q103_11, q103_13, q103_15, c1, zCall_some, Option.toList, List.cons_append, List.nil_append, zb_0, zb_1, zem, z01, z11, nI_add, ↓reduceIte, not_true_eq_false, not_false_eq_true, n0T, n1F, n11T, true_or, or_true, false_or]
  | succ m ih =>
    intro i a hi hL
    have c1 : ¬ nI 8 ≤ nI i := nI_ge (by omega) (by omega)
    have ix : zIx 21 64 (nI i) := ix64 (by omega)
    obtain ⟨a', h1, h2, h3⟩ := ih (i + 1) (zuA a 64 (nI i) (nI 0)) (by omega) (fun q hq => by
      by_cases e : q = i
      · rw [e]; exact zuA_eq
      · rw [zuA_ni (nI_ne (by omega) (by omega) e)]; exact hL q (by omega))
    refine ⟨a', ?_, h2, fun k hk => by rw [h3 k hk, zuA_nk hk]⟩
    rw [← h1, q103_11]
    simp only [q103_0, q103_1, q103_4, q103_7, q103_8, q103_9, q103_13, q103_15, q103_18, q103_19, q103_22, q103_24, q103_25, q103_26, q103_29, q103_33, q103_35, q103_37, q103_38, q103_41, q103_42, q103_45, q103_46, q103_47, q103_50, q103_52, q103_53, q103_54, q103_57, q103_58, q103_59, q103_62, q103_63, q103_65, q103_67, q103_68, q103_71, q103_74, q103_75, q103_78, q103_80, q103_81, q103_82, q103_83, q103_86, q103_88, q103_91, q103_92, q103_93, q103_96, q103_99, q103_102, q103_105, q103_107, q103_109, q103_111, q103_113, q103_114, q103_116, q103_118, q103_119, q103_122, q103_125, q103_126, q103_128, q103_131, q103_134, q103_136, q103_138, q103_141, q103_142, q103_145, q103_147, q103_148, q103_151, q103_153, q103_154, q103_157, q103_159, q103_160, q103_163, q103_165, q103_167, q103_169, q103_172, q103_173, q103_176, q103_178, q103_179, q103_182, q103_184, q103_185, q103_188, q103_190, q103_191, q103_194, q103_196, q103_199, q103_202, q103_204, q103_206, q103_207, c1, ix, zCall_some, Option.toList, List.cons_append, List.nil_append, zb_0, zb_1, zem, z01, z11, nI_add, ↓reduceIte, not_true_eq_false, not_false_eq_true, n0T, n1F, n11T, true_or, or_true, false_or]
theorem un_2 {sc : Int32 × (Int32 → Int32)} {d w : Nat} {f : zF} {j : zJ} {σ x : Nat → Nat} {v1 v2 v4 v6 : Value} (hV : VR σ) (hw : w ≤ 1010) (hf : f 2 6 = nI (σ 0)) : ∀ (m g : Nat) (a : zA), g + m = σ 0 → TuO σ w false f a → (∀ q, q < σ 0 → a 64 (nI q) = nI (if q < g then x q + ngF σ w false q else x q)) →
    ∃ a' : zA, rn sc (cf sc (d + 5)) 103 65 [.ref 0, v1, v2, .ref 2, v4, .int (nI g), v6] [] f a j = rn sc (cf sc (d + 5)) 103 99 [.ref 0, v1, v2, .ref 2, v4, .int (nI (σ 0)), v6] [] f a' j ∧ (∀ q, q < σ 0 → a' 64 (nI q) = nI (x q + ngF σ w false q)) ∧ ∀ k, k ≠ 64 → a' k = a k := by
  have hn := hV.1
  intro m
  induction m with
  | zero =>
    intro g a hg hT hA
    have e : g = σ 0 := by omega
    subst e
    have c1 : nI (σ 0) ≤ nI (σ 0) := nI_le (Nat.le_refl _) (by omega)
    refine ⟨a, ?_, fun q hq => by have := hA q hq; rwa [if_pos hq] at this, fun _ _ => rfl⟩
    simp only [q103_65, q103_67, q103_68, q103_71, isC_2, hf, c1, zCall_some, Option.toList, List.cons_append, List.nil_append, zb_0, zb_1, zem, z01, z11, nI_add, ↓reduceIte, not_true_eq_false, not_false_eq_true, n0T, n1F, n11T, true_or, or_true, false_or]
  | succ m ih =>
    intro g a hg hT hA
    have hgn : g < σ 0 := by omega
    have c1 : ¬ nI (σ 0) ≤ nI g := nI_ge hgn (by omega)
    have ix : zIx 21 64 (nI g) := ix64 (by omega)
    have e1 : a 64 (nI g) = nI (x g) := by rw [hA g hgn, if_neg (by omega)]
    have hT1 : TuO σ w false f (zuA a 64 (nI g) (nI (x g + ngF σ w false g))) := by
      unfold TuO zLst at hT ⊢
      rw [zuA_nk (by omega), zuA_nk (by omega), zuA_nk (by omega), zuA_nk (by omega), zuA_nk (by omega), zuA_nk (by omega), zuA_nk (by omega)]
      exact hT
    obtain ⟨a', h1, h2, h3⟩ := ih (g + 1) (zuA a 64 (nI g) (nI (x g + ngF σ w false g))) (by omega) hT1 (fun q hq => by
      by_cases e : q = g
      · rw [e, if_pos (by omega)]; exact zuA_eq
      · rw [zuA_ni (nI_ne (by omega) (by omega) e), hA q hq]
        by_cases z : q < g
        · rw [if_pos z, if_pos (by omega)]
        · rw [if_neg z, if_neg (by omega)])
    refine ⟨a', ?_, h2, fun k hk => by rw [h3 k hk, zuA_nk hk]⟩
    rw [← h1, q103_65]
    simp only [q103_0, q103_1, q103_4, q103_7, q103_8, q103_9, q103_11, q103_13, q103_15, q103_18, q103_19, q103_22, q103_24, q103_25, q103_26, q103_29, q103_32, q103_33, q103_35, q103_37, q103_38, q103_41, q103_42, q103_45, q103_46, q103_47, q103_50, q103_52, q103_53, q103_54, q103_57, q103_58, q103_59, q103_62, q103_63, q103_67, q103_68, q103_71, q103_74, q103_75, q103_78, q103_80, q103_81, q103_82, q103_83, q103_86, q103_88, q103_91, q103_92, q103_93, q103_96, q103_102, q103_105, q103_107, q103_109, q103_111, q103_113, q103_114, q103_116, q103_118, q103_119, q103_122, q103_125, q103_126, q103_128, q103_131, q103_134, q103_136, q103_138, q103_141, q103_142, q103_145, q103_147, q103_148, q103_151, q103_153, q103_154, q103_157, q103_159, q103_160, q103_163, q103_165, q103_167, q103_169, q103_172, q103_173, q103_176, q103_178, q103_179, q103_182, q103_184, q103_185, q103_188, q103_190, q103_191, q103_194, q103_196, q103_199, q103_202, q103_204, q103_206, q103_207, isC_2, hf, c1, ix, e1, m_nightHours hV hw (fun q => by cases q) hT hgn, zCall_some, Option.toList, List.cons_append, List.nil_append, zb_0, zb_1, zem, z01, z11, nI_add, ↓reduceIte, not_true_eq_false, not_false_eq_true, n0T, n1F, n11T, true_or, or_true, false_or]
def oI (o : Option Nat) : Int32 := match o with
  | none => -5
  | some y => nI y
theorem mxO_s (P : Nat → Bool) (x : Nat → Nat) (g : Nat) : mxO P x (g + 1) = if P g = true then some (match mxO P x g with | none => x g | some y => if y < x g then x g else y) else mxO P x g := rfl
theorem mnO_s (P : Nat → Bool) (x : Nat → Nat) (g : Nat) : mnO P x (g + 1) = if P g = true then some (match mnO P x g with | none => x g | some y => if x g < y then x g else y) else mnO P x g := rfl
theorem mxO_le {P : Nat → Bool} {x : Nat → Nat} {B : Nat} : ∀ n, (∀ g, g < n → x g ≤ B) → ∀ y, mxO P x n = some y → y ≤ B
  | 0, h, y, e => by cases e
  | n + 1, h, y, e => by
    have ih := mxO_le (P := P) (x := x) (B := B) n (fun g hg => h g (by omega))
    have h9 := h n (by omega)
    rw [mxO_s] at e
    split at e
    · cases hm : mxO P x n with
      | none => rw [hm] at e; cases e; exact h9
      | some z =>
        rw [hm] at e
        dsimp only at e
        split at e
        · cases e; exact h9
        · cases e; exact ih _ hm
    · exact ih y e
theorem mn_mx {P : Nat → Bool} {x : Nat → Nat} : ∀ n, (mxO P x n = none ∧ mnO P x n = none) ∨ ∃ y z, mxO P x n = some y ∧ mnO P x n = some z ∧ z ≤ y
  | 0 => Or.inl ⟨rfl, rfl⟩
  | n + 1 => by
    have ih := mn_mx (P := P) (x := x) n
    rw [mxO_s, mnO_s]
    by_cases hp : P n = true
    · rw [if_pos hp, if_pos hp]
      rcases ih with ⟨h1, h2⟩ | ⟨y, z, h1, h2, h3⟩
      · rw [h1, h2]
        exact Or.inr ⟨_, _, rfl, rfl, Nat.le_refl _⟩
      · rw [h1, h2]
        refine Or.inr ⟨_, _, rfl, rfl, ?_⟩
        dsimp only
        split <;> split <;> omega
    · rw [if_neg hp, if_neg hp]
      exact ih
theorem un_3 {sc : Int32 × (Int32 → Int32)} {d : Nat} {f : zF} {a : zA} {j : zJ} {σ x : Nat → Nat} {v1 v2 : Value} (hV : VR σ) (hR : CR0 2 σ f a) (hx : ∀ g, g < σ 0 → x g ≤ 2000) (hA : ∀ q, q < σ 0 → a 64 (nI q) = nI (x q)) : ∀ (m g : Nat), g + m = σ 0 →
    rn sc (cf sc (d + 5)) 103 116 [.ref 0, v1, v2, .ref 2, .int (oI (mxO (prB σ) x g)), .int (oI (mnO (prB σ) x g)), .int (nI g)] [] f a j = some (some (.int (nI ((mxO (prB σ) x (σ 0)).getD 0 - (mnO (prB σ) x (σ 0)).getD 0))), f, a, j) := by
  have hn := hV.1
  have hf : f 2 6 = nI (σ 0) := hR.1
  intro m
  induction m with
  | zero =>
    intro g hg
    have e : g = σ 0 := by omega
    subst e
    have c1 : nI (σ 0) ≤ nI (σ 0) := nI_le (Nat.le_refl _) (by omega)
    rcases mn_mx (P := prB σ) (x := x) (σ 0) with ⟨h1, h2⟩ | ⟨y, z, h1, h2, h3⟩
    · rw [h1, h2]
      have e5 : oI none - oI none = nI 0 := by decide
      simp only [q103_116, q103_118, q103_119, q103_122, q103_202, q103_204, q103_206, q103_207, isC_2, hf, c1, e5, Option.getD_none, Nat.sub_self, zCall_some, Option.toList, List.cons_append, List.nil_append, zb_0, zb_1, zem, z01, z11, nI_add, ↓reduceIte, not_true_eq_false, not_false_eq_true, n0T, n1F, n11T, true_or, or_true, false_or]
    · rw [h1, h2]
      have e5 : oI (some y) - oI (some z) = nI (y - z) := pk_sub h3
      simp only [q103_116, q103_118, q103_119, q103_122, q103_202, q103_204, q103_206, q103_207, isC_2, hf, c1, e5, Option.getD_some, zCall_some, Option.toList, List.cons_append, List.nil_append, zb_0, zb_1, zem, z01, z11, nI_add, ↓reduceIte, not_true_eq_false, not_false_eq_true, n0T, n1F, n11T, true_or, or_true, false_or]
  | succ m ih =>
    intro g hg
    have hgn : g < σ 0 := by omega
    have c1 : ¬ nI (σ 0) ≤ nI g := nI_ge hgn (by omega)
    have ix : zIx 21 64 (nI g) := ix64 (by omega)
    rw [← ih (g + 1) (by omega), q103_116, mxO_s, mnO_s]
    by_cases haw : σ (32 + g) = 1
    · have hp : ¬ prB σ g = true := by unfold prB; simp [haw]
      rw [if_neg hp, if_neg hp]
      simp only [q103_0, q103_1, q103_4, q103_7, q103_8, q103_9, q103_11, q103_13, q103_15, q103_18, q103_19, q103_22, q103_24, q103_25, q103_26, q103_29, q103_32, q103_33, q103_35, q103_37, q103_38, q103_41, q103_42, q103_45, q103_46, q103_47, q103_50, q103_52, q103_53, q103_54, q103_57, q103_58, q103_59, q103_62, q103_63, q103_65, q103_67, q103_68, q103_71, q103_74, q103_75, q103_78, q103_80, q103_81, q103_82, q103_83, q103_86, q103_88, q103_91, q103_92, q103_93, q103_96, q103_99, q103_102, q103_105, q103_107, q103_109, q103_111, q103_113, q103_114, q103_118, q103_119, q103_122, q103_125, q103_126, q103_128, q103_131, q103_134, q103_136, q103_138, q103_141, q103_142, q103_145, q103_147, q103_148, q103_151, q103_153, q103_154, q103_157, q103_159, q103_160, q103_163, q103_165, q103_167, q103_169, q103_172, q103_173, q103_176, q103_178, q103_179, q103_182, q103_184, q103_185, q103_188, q103_190, q103_191, q103_194, q103_196, q103_199, q103_204, q103_206, q103_207, isC_2, hf, c1, m_isAway isC_2 hV hR hgn, haw, zCall_some, Option.toList, List.cons_append, List.nil_append, zb_0, zb_1, zem, z01, z11, nI_add, ↓reduceIte, not_true_eq_false, not_false_eq_true, n0T, n1F, n11T, true_or, or_true, false_or]
    · have hp : prB σ g = true := by unfold prB; simp [haw, hgn]
      rw [if_pos hp, if_pos hp]
      rcases mn_mx (P := prB σ) (x := x) g with ⟨h1, h2⟩ | ⟨y, z, h1, h2, h3⟩
      · rw [h1, h2]
        have e5 : oI none = -5 := rfl
        have e6 : oI (some (x g)) = nI (x g) := rfl
        simp only [q103_0, q103_1, q103_4, q103_7, q103_8, q103_9, q103_11, q103_13, q103_15, q103_18, q103_19, q103_22, q103_24, q103_25, q103_26, q103_29, q103_32, q103_33, q103_35, q103_37, q103_38, q103_41, q103_42, q103_45, q103_46, q103_47, q103_50, q103_52, q103_53, q103_54, q103_57, q103_58, q103_59, q103_62, q103_63, q103_65, q103_67, q103_68, q103_71, q103_74, q103_75, q103_78, q103_80, q103_81, q103_82, q103_83, q103_86, q103_88, q103_91, q103_92, q103_93, q103_96, q103_99, q103_102, q103_105, q103_107, q103_109, q103_111, q103_113, q103_114, q103_118, q103_119, q103_122, q103_125, q103_126, q103_128, q103_131, q103_134, q103_136, q103_138, q103_141, q103_142, q103_145, q103_147, q103_148, q103_151, q103_153, q103_154, q103_157, q103_159, q103_160, q103_163, q103_165, q103_167, q103_169, q103_172, q103_173, q103_176, q103_178, q103_179, q103_182, q103_184, q103_185, q103_188, q103_190, q103_191, q103_194, q103_196, q103_199, q103_204, q103_206, q103_207, isC_2, hf, c1, ix, hA g hgn, m_isAway isC_2 hV hR hgn, haw, e5, e6, zCall_some, Option.toList, List.cons_append, List.nil_append, zb_0, zb_1, zem, z01, z11, nI_add, ↓reduceIte, not_true_eq_false, not_false_eq_true, n0T, n1F, n11T, true_or, or_true, false_or]
      · rw [h1, h2]
        have hy := mxO_le (P := prB σ) (x := x) g (fun q hq => hx q (by omega)) y h1
        have hxg := hx g hgn
        have e5 : ∀ q, oI (some q) = nI q := fun _ => rfl
        have k1 : ¬ nI y = -5 := nI_n5 (by omega)
        have k2 : ¬ nI z = -5 := nI_n5 (by omega)
        have x1 : (nI y < nI (x g)) = (y < x g) := propext (nI_ltI (by omega) (by omega))
        have x2 : (nI (x g) < nI z) = (x g < z) := propext (nI_ltI (by omega) (by omega))
        simp only [q103_0, q103_1, q103_4, q103_7, q103_8, q103_9, q103_11, q103_13, q103_15, q103_18, q103_19, q103_22, q103_24, q103_25, q103_26, q103_29, q103_32, q103_33, q103_35, q103_37, q103_38, q103_41, q103_42, q103_45, q103_46, q103_47, q103_50, q103_52, q103_53, q103_54, q103_57, q103_58, q103_59, q103_62, q103_63, q103_65, q103_67, q103_68, q103_71, q103_74, q103_75, q103_78, q103_80, q103_81, q103_82, q103_83, q103_86, q103_88, q103_91, q103_92, q103_93, q103_96, q103_99, q103_102, q103_105, q103_107, q103_109, q103_111, q103_113, q103_114, q103_118, q103_119, q103_122, q103_125, q103_126, q103_128, q103_131, q103_134, q103_136, q103_138, q103_141, q103_142, q103_145, q103_147, q103_148, q103_151, q103_153, q103_154, q103_157, q103_159, q103_160, q103_163, q103_165, q103_167, q103_169, q103_172, q103_173, q103_176, q103_178, q103_179, q103_182, q103_184, q103_185, q103_188, q103_190, q103_191, q103_194, q103_196, q103_199, q103_204, q103_206, q103_207, isC_2, hf, c1, ix, hA g hgn, m_isAway isC_2 hV hR hgn, haw, e5, k1, k2, m_max, m_min, x1, x2, zCall_some, Option.toList, List.cons_append, List.nil_append, zb_0, zb_1, zem, z01, z11, nI_add, ↓reduceIte, not_true_eq_false, not_false_eq_true, n0T, n1F, n11T, true_or, or_true, false_or]
        congr 2
        by_cases q1 : y < x g <;> by_cases q2 : x g < z <;> simp [q1, q2]
theorem un_le {σ : Nat → Nat} (hV : VR σ) {g : Nat} (hg : g < σ 0) : ∀ m, unF σ g m ≤ 97 * m
  | 0 => Nat.le_refl _
  | m + 1 => by
    have ih := un_le hV hg m
    have := ng_97 hV (w := σ 3 + m) (tr := false) (fun q => by cases q) hg
    show unF σ g m + ngF σ (σ 3 + m) false g ≤ _
    omega
