/-! ===== the class: uneven, evenest ===== -/
theorem m_unevenBy {sc : Int32 × (Int32 → Int32)} {f : zF} {a : zA} {j : zJ} {d m r : Nat} {σ : Nat → Nat} (hW : WR 1 σ f a) (hV : VS σ) (hm : m ≤ 12) (hr : r ≤ 3) : ∃ (f' : zF) (a' : zA), cf sc (d + 6) 97 [.ref 0, .int (nI m), .int (nI r)] f a j = some (some (.int (nI (unO (zup σ 2 r) m))), f', a', j) ∧ FrT f f' a a' := by
  have hVR := hV.1.1
  have hn := hVR.1
  have hw3 := hV.1.2.2.2.2
  have eu : ∀ i, i ≠ 1 → i ≠ 2 → i ≠ 3 → zup σ 2 r i = σ i := fun i _ q _ => zup_ne q
  have z0 : zup σ 2 r 0 = σ 0 := zup_ne (by omega)
  have z1 : zup σ 2 r 1 = σ 1 := zup_ne (by omega)
  have z3 : zup σ 2 r 3 = σ 3 := zup_ne (by omega)
  have hVu : VR (zup σ 2 r) := hVR.up eu (by rw [z1]; exact hVR.2.1)
  obtain ⟨a1, b1, b2, b3⟩ := un_1 (sc := sc) (F := cf sc (d + 5)) (f := f) (j := j) (v1 := .int (nI m)) (v2 := .int (nI r)) (v5 := .null) (v6 := .null) 8 0 a (by omega) (fun q hq => by omega)
  have key := zLoopP (n := m) (g := fun s : (Nat × zF × zA × Value) => rn sc (cf sc (d + 5)) 97 35 [.ref 0, .int (nI m), .int (nI r), .ref 2, .int (nI s.1), s.2.2.2, .null] [] s.2.1 s.2.2.1 j) (P := fun i s => s.1 = i ∧ FrT f s.2.1 a s.2.2.1 ∧ ∀ q, q < σ 0 → s.2.2.1 64 (nI q) = nI (unF (zup σ 2 r) q i)) (by
    intro i s hi hP
    obtain ⟨i', f1, a1, v5⟩ := s
    obtain ⟨rfl, hF, hA⟩ := hP
    dsimp only at hF hi hA
    have hW1 := hW.fr isW_1 hF
    obtain ⟨f2, a2, t1, t2, t3, t4⟩ := m_workOut (sc := sc) (d := d + 1) (f := f1) (a := a1) (j := j) (c := 2) (w := σ 3 + i') (tr := false) (σ := zup σ 2 r) isC_2 hVu (by omega) (by rw [zup_eq]; exact hr) (hW1.1.up eu) (fun q => by cases q)
    rw [if_neg (by decide), zup_eq, z1] at t1
    have hf2 : f2 2 6 = nI (zup σ 2 r 0) := by rw [t4 2 (by omega), z0]; exact hW1.1.1
    obtain ⟨a3, s1, s2, s3⟩ := un_2 (sc := sc) (d := d + 4) (w := σ 3 + i') (f := f2) (j := j) (σ := zup σ 2 r) (x := fun q => unF (zup σ 2 r) q i') (v1 := .int (nI m)) (v2 := .int (nI r)) (v4 := .int (nI i')) (v6 := .null) hVu (by omega) hf2 (σ 0) 0 a2 (by rw [z0]; omega) t2 (fun q hq => by
      rw [z0] at hq
      rw [t3 64 (by omega), hA q hq, if_neg (by omega)])
    refine ⟨(i' + 1, f2, a3, .int (nI (zup σ 2 r 0))), ⟨rfl, hF.tr ⟨t4, fun k hk => ?_⟩, fun q hq => ?_⟩, ?_⟩
    · dsimp only
      rw [s3 k (by omega), t3 k (by omega)]
    · have := s2 q (by rw [z0]; exact hq)
      dsimp only at this ⊢
      rw [this]
      show _ = nI (unF (zup σ 2 r) q i' + ngF (zup σ 2 r) (zup σ 2 r 3 + i') false q)
      rw [z3]
    · have c1 : ¬ nI m ≤ nI i' := nI_ge hi (by omega)
      have e7 : f1 2 7 = nI (σ 1) := hW1.2.1.1
      have e8 : f1 2 8 = nI (σ 3) := hW1.2.1.2.1
      dsimp only
      rw [q97_35]
      simp only [q97_0, q97_1, q97_4, q97_7, q97_8, q97_9, q97_11, q97_13, q97_15, q97_18, q97_19, q97_22, q97_24, q97_25, q97_26, q97_29, q97_32, q97_33, q97_37, q97_38, q97_41, q97_42, q97_45, q97_46, q97_47, q97_50, q97_52, q97_53, q97_54, q97_57, q97_58, q97_59, q97_62, q97_63, q97_67, q97_68, q97_71, q97_74, q97_75, q97_78, q97_80, q97_81, q97_82, q97_83, q97_86, q97_88, q97_91, q97_92, q97_93, q97_96, q97_102, q97_105, q97_107, q97_109, q97_111, q97_113, q97_114, q97_116, q97_118, q97_119, q97_122, q97_125, q97_126, q97_128, q97_131, q97_134, q97_136, q97_138, q97_141, q97_142, q97_145, q97_147, q97_148, q97_151, q97_153, q97_154, q97_157, q97_159, q97_160, q97_163, q97_165, q97_167, q97_169, q97_172, q97_173, q97_176, q97_178, q97_179, q97_182, q97_184, q97_185, q97_188, q97_190, q97_191, q97_194, q97_196, q97_199, q97_202, q97_204, q97_206, q97_207, isC_2, c1, e7, e8, t1, zCall_some, Option.toList, List.cons_append, List.nil_append, zb_0, zb_1, zem, z01, z11, nI_add, ↓reduceIte, not_true_eq_false, not_false_eq_true, n0T, n1F, n11T, true_or, or_true, false_or]
      rw [s1]
      simp only [q97_0, q97_1, q97_4, q97_7, q97_8, q97_9, q97_11, q97_13, q97_15, q97_18, q97_19, q97_22, q97_24, q97_25, q97_26, q97_29, q97_32, q97_33, q97_37, q97_38, q97_41, q97_42, q97_45, q97_46, q97_47, q97_50, q97_52, q97_53, q97_54, q97_57, q97_58, q97_59, q97_62, q97_63, q97_67, q97_68, q97_71, q97_74, q97_75, q97_78, q97_80, q97_81, q97_82, q97_83, q97_86, q97_88, q97_91, q97_92, q97_93, q97_96, q97_99, q97_102, q97_105, q97_107, q97_109, q97_111, q97_113, q97_114, q97_116, q97_118, q97_119, q97_122, q97_125, q97_126, q97_128, q97_131, q97_134, q97_136, q97_138, q97_141, q97_142, q97_145, q97_147, q97_148, q97_151, q97_153, q97_154, q97_157, q97_159, q97_160, q97_163, q97_165, q97_167, q97_169, q97_172, q97_173, q97_176, q97_178, q97_179, q97_182, q97_184, q97_185, q97_188, q97_190, q97_191, q97_194, q97_196, q97_199, q97_202, q97_204, q97_206, q97_207, zCall_some, Option.toList, List.cons_append, List.nil_append, zb_0, zb_1, zem, z01, z11, nI_add, ↓reduceIte, not_true_eq_false, not_false_eq_true, n0T, n1F, n11T, true_or, or_true, false_or]) (0, f, a1, .null) ⟨rfl, ⟨fun _ _ => rfl, fun k hk => b3 k (by omega)⟩, fun q hq => b2 q (by omega)⟩
  obtain ⟨⟨i, f1, a3, v5⟩, ⟨hi, hF, hA⟩, e⟩ := key
  dsimp only at hF e hi hA
  rw [hi] at e
  refine ⟨f1, a3, ?_, hF⟩
  have hW1 := hW.fr isW_1 hF
  have c1 : nI m ≤ nI m := nI_le (Nat.le_refl _) (by omega)
  rw [en97]
  simp only [q97_0, q97_1, q97_4, q97_7, q97_8, q97_9, isW_1, isC_2, Nat.reduceAdd, zCall_some, Option.toList, List.cons_append, List.nil_append, zb_0, zb_1, zem, z01, z11, nI_add, ↓reduceIte, not_true_eq_false, not_false_eq_true, n0T, n1F, n11T, true_or, or_true, false_or]
  refine Eq.trans (show _ = _ from b1) ?_
  simp only [q97_32, q97_33, zCall_some, Option.toList, List.cons_append, List.nil_append, zb_0, zb_1, zem, z01, z11, nI_add, ↓reduceIte, not_true_eq_false, not_false_eq_true, n0T, n1F, n11T, true_or, or_true, false_or]
  refine Eq.trans (show _ = _ from e) ?_
  simp only [q97_35, q97_37, q97_38, q97_105, q97_107, q97_109, q97_111, q97_113, q97_114, c1, zCall_some, Option.toList, List.cons_append, List.nil_append, zb_0, zb_1, zem, z01, z11, nI_add, ↓reduceIte, not_true_eq_false, not_false_eq_true, n0T, n1F, n11T, true_or, or_true, false_or]
  have h3 := un_3 (sc := sc) (d := d + 3) (f := f1) (a := a3) (j := j) (σ := zup σ 2 r) (x := fun g => unF (zup σ 2 r) g m) (v1 := .int (nI m)) (v2 := .int (nI r)) hVu (hW1.1.up eu) (fun g hg => by have := un_le hVu hg m; omega) (fun q hq => hA q (by rw [z0] at hq; exact hq)) (σ 0) 0 (by rw [z0]; omega)
  exact h3
theorem x_uneven {sc : Int32 × (Int32 → Int32)} {f : zF} {a : zA} {j : zJ} {d : Nat} {σ : Nat → Nat} {n : Int32} (hW : WR 1 σ f a) (hV : VS σ) : ∃ (f' : zF) (a' : zA), cf sc (d + 7) 71 [.ref 0, .int n] f a j = some (some (.int (sUneven σ n)), f', a', j) ∧ FrT f f' a a' := by
  rw [en71]
  unfold sUneven
  by_cases hm : zBtw n 1 12
  · obtain ⟨m, m1, m2, rfl⟩ := zBtw_of (by omega) (by omega) hm
    obtain ⟨f1, a1, t1, t2⟩ := m_unevenBy (sc := sc) (d := d) (j := j) (m := m) (r := σ 2) hW hV m2 hV.1.2.2.2.1
    rw [if_pos hm, nI_clamp (n := m) (by omega)]
    refine ⟨f1, a1, ?_, t2⟩
    have e9 : f 2 9 = nI (σ 2) := hW.2.1.2.2
    rw [zup_self] at t1
    simp only [q71_0, q71_1, q71_2, q71_4, q71_7, q71_10, q71_11, q71_12, q71_13, q71_16, q71_19, q71_22, q71_25, q71_28, q71_30, isW_1, isC_2, Nat.reduceAdd, m_isWithin, eq_true hm, e9, t1, zCall_some, Option.toList, List.cons_append, List.nil_append, zb_0, zb_1, zem, z01, z11, nI_add, ↓reduceIte, not_true_eq_false, not_false_eq_true, n0T, n1F, n11T, true_or, or_true, false_or]
  · rw [if_neg hm]
    refine ⟨f, a, ?_, FrT.rf⟩
    simp only [q71_0, q71_1, q71_2, q71_4, q71_7, q71_10, q71_11, q71_12, q71_13, q71_16, q71_19, q71_22, q71_25, q71_28, q71_30, m_isWithin, eq_false hm, zCall_some, Option.toList, List.cons_append, List.nil_append, zb_0, zb_1, zem, z01, z11, nI_add, ↓reduceIte, not_true_eq_false, not_false_eq_true, n0T, n1F, n11T, true_or, or_true, false_or]
theorem ng_le97 {σ : Nat → Nat} {m : Nat} (hV : VR σ) (hm : m ≤ 12) : unO σ m ≤ 2000 := by
  unfold unO
  rcases mn_mx (P := prB σ) (x := fun g => unF σ g m) (σ 0) with ⟨h1, h2⟩ | ⟨y, z, h1, h2, h3⟩
  · rw [h1, h2]; simp
  · have := mxO_le (P := prB σ) (x := fun g => unF σ g m) (B := 2000) (σ 0) (fun g hg => by have := un_le hV hg m; omega) y h1
    rw [h1, h2]
    simp only [Option.getD_some]
    omega
theorem evF_le (u : Nat → Nat) : ∀ r, evF u r ≤ r
  | 0 => Nat.le_refl _
  | r + 1 => by
    have ih := evF_le u r
    show (if u (r + 1) < u (evF u r) then r + 1 else evF u r) ≤ r + 1
    split <;> omega
theorem x_evenest {sc : Int32 × (Int32 → Int32)} {f : zF} {a : zA} {j : zJ} {d : Nat} {σ : Nat → Nat} {n : Int32} (hW : WR 1 σ f a) (hV : VS σ) : ∃ (f' : zF) (a' : zA), cf sc (d + 7) 72 [.ref 0, .int n] f a j = some (some (.int (sEvenest σ n)), f', a', j) ∧ FrT f f' a a' := by
  have hVR := hV.1.1
  rw [en72]
  unfold sEvenest
  by_cases hm : zBtw n 1 12
  · obtain ⟨m, m1, m2, rfl⟩ := zBtw_of (by omega) (by omega) hm
    rw [if_pos hm, nI_clamp (n := m) (by omega)]
    have hu : ∀ r, unO (zup σ 2 r) m ≤ 2000 := fun r => ng_le97 (hVR.up (fun i _ q _ => zup_ne q) (by rw [zup_ne (by omega)]; exact hVR.2.1)) m2
    obtain ⟨f0, a0, t0, tF⟩ := m_unevenBy (sc := sc) (d := d) (j := j) (m := m) (r := 0) hW hV m2 (by omega)
    have key := zLoopP (n := 3) (g := fun s : (Nat × zF × zA × Value) => rn sc (cf sc (d + 6)) 72 25 [.ref 0, .int (nI m), .int (nI (evF (fun r => unO (zup σ 2 r) m) s.1)), .int (nI (unO (zup σ 2 (evF (fun r => unO (zup σ 2 r) m) s.1)) m)), .int (nI (s.1 + 1)), s.2.2.2] [] s.2.1 s.2.2.1 j) (P := fun i s => s.1 = i ∧ FrT f s.2.1 a s.2.2.1) (by
      intro i s hi hP
      obtain ⟨i', f1, a1, v5⟩ := s
      obtain ⟨rfl, hF⟩ := hP
      dsimp only at hF hi
      have hW1 := hW.fr isW_1 hF
      obtain ⟨f2, a2, t1, t2⟩ := m_unevenBy (sc := sc) (d := d) (j := j) (m := m) (r := i' + 1) hW1 hV m2 (by omega)
      refine ⟨(i' + 1, f2, a2, .int (nI (unO (zup σ 2 (i' + 1)) m))), ⟨rfl, hF.tr t2⟩, ?_⟩
      have c1 : ¬ nI 3 < nI (i' + 1) := nI_nlt (by omega) (by omega)
      have es : evF (fun r => unO (zup σ 2 r) m) (i' + 1) = if unO (zup σ 2 (i' + 1)) m < unO (zup σ 2 (evF (fun r => unO (zup σ 2 r) m) i')) m then i' + 1 else evF (fun r => unO (zup σ 2 r) m) i' := rfl
      dsimp only
      rw [q72_25, es]
      have h1 := hu (i' + 1)
      have h2 := hu (evF (fun r => unO (zup σ 2 r) m) i')
      by_cases hc : unO (zup σ 2 (i' + 1)) m < unO (zup σ 2 (evF (fun r => unO (zup σ 2 r) m) i')) m
      · have c2 : ¬ nI (unO (zup σ 2 (evF (fun r => unO (zup σ 2 r) m) i')) m) ≤ nI (unO (zup σ 2 (i' + 1)) m) := nI_ge hc (by omega)
        rw [if_pos hc]
        simp only [q72_0, q72_1, q72_2, q72_4, q72_7, q72_10, q72_12, q72_13, q72_14, q72_15, q72_16, q72_17, q72_18, q72_21, q72_22, q72_23, q72_27, q72_28, q72_31, q72_32, q72_33, q72_35, q72_38, q72_40, q72_42, q72_43, q72_46, q72_48, q72_49, q72_51, q72_52, q72_55, q72_58, q72_59, c1, c2, t1, zCall_some, Option.toList, List.cons_append, List.nil_append, zb_0, zb_1, zem, z01, z11, nI_add, ↓reduceIte, not_true_eq_false, not_false_eq_true, n0T, n1F, n11T, true_or, or_true, false_or]
      · have c2 : nI (unO (zup σ 2 (evF (fun r => unO (zup σ 2 r) m) i')) m) ≤ nI (unO (zup σ 2 (i' + 1)) m) := nI_le (by omega) (by omega)
        rw [if_neg hc]
        simp only [q72_0, q72_1, q72_2, q72_4, q72_7, q72_10, q72_12, q72_13, q72_14, q72_15, q72_16, q72_17, q72_18, q72_21, q72_22, q72_23, q72_27, q72_28, q72_31, q72_32, q72_33, q72_35, q72_38, q72_40, q72_42, q72_43, q72_46, q72_48, q72_49, q72_51, q72_52, q72_55, q72_58, q72_59, c1, c2, t1, zCall_some, Option.toList, List.cons_append, List.nil_append, zb_0, zb_1, zem, z01, z11, nI_add, ↓reduceIte, not_true_eq_false, not_false_eq_true, n0T, n1F, n11T, true_or, or_true, false_or]) (0, f0, a0, .null) ⟨rfl, tF⟩
    obtain ⟨⟨i, f1, a1, v5⟩, ⟨hi, hF⟩, e⟩ := key
    dsimp only at hF e hi
    rw [hi] at e
    refine ⟨f1, a1, ?_, hF⟩
    have c1 : nI 3 < nI (3 + 1) := nI_lt (by omega) (by omega)
    have t0' : cf sc (d + 6) 97 [.ref 0, .int (nI m), .int 0] f a j = _ := t0
    simp only [q72_0, q72_1, q72_2, q72_4, q72_7, q72_10, q72_12, q72_13, q72_14, q72_15, q72_16, q72_17, q72_18, q72_21, q72_22, q72_23, q72_27, q72_28, q72_31, q72_32, q72_33, q72_35, q72_38, q72_40, q72_42, q72_43, q72_46, q72_48, q72_49, q72_51, q72_52, q72_55, q72_58, q72_59, m_isWithin, eq_true hm, t0, zCall_some, Option.toList, List.cons_append, List.nil_append, zb_0, zb_1, zem, z01, z11, nI_add, ↓reduceIte, not_true_eq_false, not_false_eq_true, n0T, n1F, n11T, true_or, or_true, false_or]
    refine Eq.trans (show _ = _ from e) ?_
    simp only [q72_25, q72_27, q72_28, q72_58, q72_59, c1, zCall_some, Option.toList, List.cons_append, List.nil_append, zb_0, zb_1, zem, z01, z11, nI_add, ↓reduceIte, not_true_eq_false, not_false_eq_true, n0T, n1F, n11T, true_or, or_true, false_or]
  · rw [if_neg hm]
    refine ⟨f, a, ?_, FrT.rf⟩
    simp only [q72_0, q72_1, q72_2, q72_4, q72_7, q72_10, q72_12, q72_13, q72_14, q72_15, q72_16, q72_17, q72_18, q72_21, q72_22, q72_23, q72_27, q72_28, q72_31, q72_32, q72_33, q72_35, q72_38, q72_40, q72_42, q72_43, q72_46, q72_48, q72_49, q72_51, q72_52, q72_55, q72_58, q72_59, m_isWithin, eq_false hm, zCall_some, Option.toList, List.cons_append, List.nil_append, zb_0, zb_1, zem, z01, z11, nI_add, ↓reduceIte, not_true_eq_false, not_false_eq_true, n0T, n1F, n11T, true_or, or_true, false_or]
