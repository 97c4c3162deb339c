/-! ===== the class: uneven, evenest ===== -/
theorem m_unevenBy {sc : Int32 × (Int32 → Int32)} {f : zF} {a : zA} {j : zJ} {d m r : Nat} {σ : Nat → Nat} (hW : WR 1 σ f a) (hV : VS σ) (hm : m ≤ 12) (hr : r ≤ 3) : ∃ (f' : zF) (a' : zA), cf sc (d + 6) 103 [.ref 0, .int (nI m), .int (nI r)] f a j = some (some (.int (nI (unO (zup σ 2 r) m))), f', a', j) ∧ FrT f f' a a' := by
  have hVR := hV.1.1
  have hn := hVR.1
  have hw3 := hV.1.2.2.2.2
  have eu : ∀ i, i ≠ 1 → i ≠ 2 → i ≠ 3 → zup σ 2 r i = σ i := fun i _ q _ => zup_ne q
  have z0 : zup σ 2 r 0 = σ 0 := zup_ne (by omega)
  have z1 : zup σ 2 r 1 = σ 1 := zup_ne (by omega)
  have z3 : zup σ 2 r 3 = σ 3 := zup_ne (by omega)
  have hVu : VR (zup σ 2 r) := hVR.up eu (by rw [z1]; exact hVR.2.1)
  obtain ⟨a1, b1, b2, b3⟩ := un_1 (sc := sc) (F := cf sc (d + 5)) (f := f) (j := j) (v1 := .int (nI m)) (v2 := .int (nI r)) (v5 := .null) (v6 := .null) 8 0 a (by omega) (fun q hq => by omega)
  have key := zLoopP (n := m) (g := fun s : (Nat × zF × zA × Value) => rn sc (cf sc (d + 5)) 103 35 [.ref 0, .int (nI m), .int (nI r), .ref 2, .int (nI s.1), s.2.2.2, .null] [] s.2.1 s.2.2.1 j) (P := fun i s => s.1 = i ∧ FrT f s.2.1 a s.2.2.1 ∧ ∀ q, q < σ 0 → s.2.2.1 64 (nI q) = nI (unF (zup σ 2 r) q i)) (by
    intro i s hi hP
    obtain ⟨i', f1, a1, v5⟩ := s
    obtain ⟨rfl, hF, hA⟩ := hP
    dsimp only at hF hi hA
    have hW1 := hW.fr isW_1 hF
    obtain ⟨f2, a2, t1, t2, t3, t4⟩ := m_workOut (sc := sc) (d := d) (f := f1) (a := a1) (j := j) (c := 2) (w := σ 3 + i') (tr := false) (σ := zup σ 2 r) isC_2 hVu (by omega) (by rw [zup_eq]; exact hr) (hW1.1.up eu) (fun q => by cases q)
    rw [if_neg (by decide), zup_eq, z1] at t1
    have hf2 : f2 2 6 = nI (zup σ 2 r 0) := by rw [t4 2 (by omega), z0]; exact hW1.1.1
    obtain ⟨a3, s1, s2, s3⟩ := un_2 (sc := sc) (d := d) (w := σ 3 + i') (f := f2) (j := j) (σ := zup σ 2 r) (x := fun q => unF (zup σ 2 r) q i') (v1 := .int (nI m)) (v2 := .int (nI r)) (v4 := .int (nI i')) (v6 := .null) hVu (by omega) hf2 (σ 0) 0 a2 (by rw [z0]; omega) t2 (fun q hq => by
      rw [z0] at hq
      rw [t3 64 (by omega), hA q hq, if_neg (by omega)])
    refine ⟨(i' + 1, f2, a3, .int (nI (zup σ 2 r 0))), ⟨rfl, hF.tr ⟨t4, fun k hk => ?_⟩, fun q hq => ?_⟩, ?_⟩
    · dsimp only
      rw [s3 k (by omega), t3 k (by omega)]
    · have := s2 q (by rw [z0]; exact hq)
      dsimp only at this ⊢
      rw [this]
      show _ = nI (unF (zup σ 2 r) q i' + ngF (zup σ 2 r) (zup σ 2 r 3 + i') false q)
      rw [z3]
    · have c1 : ¬ nI m ≤ nI i' := nI_ge hi (by omega)
      have e7 : f1 2 7 = nI (σ 1) := hW1.2.1.1
      have e8 : f1 2 8 = nI (σ 3) := hW1.2.1.2.1
      dsimp only
      rw [q103_35]
      simp only [q103_0, q103_1, q103_4, q103_7, q103_8, q103_9, q103_11, q103_13, q103_15, q103_18, q103_19, q103_22, q103_24, q103_25, q103_26, q103_29, q103_32, q103_33, q103_37, q103_38, q103_41, q103_42, q103_45, q103_46, q103_47, q103_50, q103_52, q103_53, q103_54, q103_57, q103_58, q103_59, q103_62, q103_63, q103_67, q103_68, q103_71, q103_74, q103_75, q103_78, q103_80, q103_81, q103_82, q103_83, q103_86, q103_88, q103_91, q103_92, q103_93, q103_96, q103_102, q103_105, q103_107, q103_109, q103_111, q103_113, q103_114, q103_116, q103_118, q103_119, q103_122, q103_125, q103_126, q103_128, q103_131, q103_134, q103_136, q103_138, q103_141, q103_142, q103_145, q103_147, q103_148, q103_151, q103_153, q103_154, q103_157, q103_159, q103_160, q103_163, q103_165, q103_167, q103_169, q103_172, q103_173, q103_176, q103_178, q103_179, q103_182, q103_184, q103_185, q103_188, q103_190, q103_191, q103_194, q103_196, q103_199, q103_202, q103_204, q103_206, q103_207, isC_2, c1, e7, e8, t1, zCall_some, Option.toList, List.cons_append, List.nil_append, zb_0, zb_1, zem, z01, z11, nI_add, ↓reduceIte, not_true_eq_false, not_false_eq_true, n0T, n1F, n11T, true_or, or_true, false_or]
      rw [s1]
      simp only [q103_0, q103_1, q103_4, q103_7, q103_8, q103_9, q103_11, q103_13, q103_15, q103_18, q103_19, q103_22, q103_24, q103_25, q103_26, q103_29, q103_32, q103_33, q103_37, q103_38, q103_41, q103_42, q103_45, q103_46, q103_47, q103_50, q103_52, q103_53, q103_54, q103_57, q103_58, q103_59, q103_62, q103_63, q103_67, q103_68, q103_71, q103_74, q103_75, q103_78, q103_80, q103_81, q103_82, q103_83, q103_86, q103_88, q103_91, q103_92, q103_93, q103_96, q103_99, q103_102, q103_105, q103_107, q103_109, q103_111, q103_113, q103_114, q103_116, q103_118, q103_119, q103_122, q103_125, q103_126, q103_128, q103_131, q103_134, q103_136, q103_138, q103_141, q103_142, q103_145, q103_147, q103_148, q103_151, q103_153, q103_154, q103_157, q103_159, q103_160, q103_163, q103_165, q103_167, q103_169, q103_172, q103_173, q103_176, q103_178, q103_179, q103_182, q103_184, q103_185, q103_188, q103_190, q103_191, q103_194, q103_196, q103_199, q103_202, q103_204, q103_206, q103_207, zCall_some, Option.toList, List.cons_append, List.nil_append, zb_0, zb_1, zem, z01, z11, nI_add, ↓reduceIte, not_true_eq_false, not_false_eq_true, n0T, n1F, n11T, true_or, or_true, false_or]) (0, f, a1, .null) ⟨rfl, ⟨fun _ _ => rfl, fun k hk => b3 k (by omega)⟩, fun q hq => b2 q (by omega)⟩
  obtain ⟨⟨i, f1, a3, v5⟩, ⟨hi, hF, hA⟩, e⟩ := key
  dsimp only at hF e hi hA
  rw [hi] at e
  refine ⟨f1, a3, ?_, hF⟩
  have hW1 := hW.fr isW_1 hF
  have c1 : nI m ≤ nI m := nI_le (Nat.le_refl _) (by omega)
  rw [en103]
  simp only [q103_0, q103_1, q103_4, q103_7, q103_8, q103_9, isW_1, isC_2, Nat.reduceAdd, zCall_some, Option.toList, List.cons_append, List.nil_append, zb_0, zb_1, zem, z01, z11, nI_add, ↓reduceIte, not_true_eq_false, not_false_eq_true, n0T, n1F, n11T, true_or, or_true, false_or]
  refine Eq.trans (show _ = _ from b1) ?_
  simp only [q103_32, q103_33, zCall_some, Option.toList, List.cons_append, List.nil_append, zb_0, zb_1, zem, z01, z11, nI_add, ↓reduceIte, not_true_eq_false, not_false_eq_true, n0T, n1F, n11T, true_or, or_true, false_or]
  refine Eq.trans (show _ = _ from e) ?_
  simp only [q103_35, q103_37, q103_38, q103_105, q103_107, q103_109, q103_111, q103_113, q103_114, c1, zCall_some, Option.toList, List.cons_append, List.nil_append, zb_0, zb_1, zem, z01, z11, nI_add, ↓reduceIte, not_true_eq_false, not_false_eq_true, n0T, n1F, n11T, true_or, or_true, false_or]
  have h3 := un_3 (sc := sc) (d := d) (f := f1) (a := a3) (j := j) (σ := zup σ 2 r) (x := fun g => unF (zup σ 2 r) g m) (v1 := .int (nI m)) (v2 := .int (nI r)) hVu (hW1.1.up eu) (fun g hg => by have := un_le hVu hg m; omega) (fun q hq => hA q (by rw [z0] at hq; exact hq)) (σ 0) 0 (by rw [z0]; omega)
  exact h3
theorem x_uneven {sc : Int32 × (Int32 → Int32)} {f : zF} {a : zA} {j : zJ} {d : Nat} {σ : Nat → Nat} {n : Int32} (hW : WR 1 σ f a) (hV : VS σ) : ∃ (f' : zF) (a' : zA), cf sc (d + 7) 75 [.ref 0, .int n] f a j = some (some (.int (sUneven σ n)), f', a', j) ∧ FrT f f' a a' := by
  rw [en75]
  unfold sUneven
  by_cases hm : zBtw n 1 12
  · obtain ⟨m, m1, m2, rfl⟩ := zBtw_of (by omega) (by omega) hm
    obtain ⟨f1, a1, t1, t2⟩ := m_unevenBy (sc := sc) (d := d) (j := j) (m := m) (r := σ 2) hW hV m2 hV.1.2.2.2.1
    rw [if_pos hm, nI_clamp (n := m) (by omega)]
    refine ⟨f1, a1, ?_, t2⟩
    have e9 : f 2 9 = nI (σ 2) := hW.2.1.2.2
    rw [zup_self] at t1
    simp only [q75_0, q75_1, q75_2, q75_4, q75_7, q75_10, q75_11, q75_12, q75_13, q75_16, q75_19, q75_22, q75_25, q75_28, q75_30, isW_1, isC_2, Nat.reduceAdd, m_isWithin, eq_true hm, e9, t1, zCall_some, Option.toList, List.cons_append, List.nil_append, zb_0, zb_1, zem, z01, z11, nI_add, ↓reduceIte, not_true_eq_false, not_false_eq_true, n0T, n1F, n11T, true_or, or_true, false_or]
  · rw [if_neg hm]
    refine ⟨f, a, ?_, FrT.rf⟩
    simp only [q75_0, q75_1, q75_2, q75_4, q75_7, q75_10, q75_11, q75_12, q75_13, q75_16, q75_19, q75_22, q75_25, q75_28, q75_30, m_isWithin, eq_false hm, zCall_some, Option.toList, List.cons_append, List.nil_append, zb_0, zb_1, zem, z01, z11, nI_add, ↓reduceIte, not_true_eq_false, not_false_eq_true, n0T, n1F, n11T, true_or, or_true, false_or]
theorem ng_le97 {σ : Nat → Nat} {m : Nat} (hV : VR σ) (hm : m ≤ 12) : unO σ m ≤ 2000 := by
  unfold unO
  rcases mn_mx (P := prB σ) (x := fun g => unF σ g m) (σ 0) with ⟨h1, h2⟩ | ⟨y, z, h1, h2, h3⟩
  · rw [h1, h2]; simp
  · have := mxO_le (P := prB σ) (x := fun g => unF σ g m) (B := 2000) (σ 0) (fun g hg => by have := un_le hV hg m; omega) y h1
    rw [h1, h2]
    simp only [Option.getD_some]
    omega
theorem evF_le (u : Nat → Nat) : ∀ r, evF u r ≤ r
  | 0 => Nat.le_refl _
  | r + 1 => by
    have ih := evF_le u r
    show (if u (r + 1) < u (evF u r) then r + 1 else evF u r) ≤ r + 1
    split <;> omega
theorem x_evenest {sc : Int32 × (Int32 → Int32)} {f : zF} {a : zA} {j : zJ} {d : Nat} {σ : Nat → Nat} {n : Int32} (hW : WR 1 σ f a) (hV : VS σ) : ∃ (f' : zF) (a' : zA), cf sc (d + 7) 76 [.ref 0, .int n] f a j = some (some (.int (sEvenest σ n)), f', a', j) ∧ FrT f f' a a' := by
  have hVR := hV.1.1
  rw [en76]
  unfold sEvenest
  by_cases hm : zBtw n 1 12
  · obtain ⟨m, m1, m2, rfl⟩ := zBtw_of (by omega) (by omega) hm
    rw [if_pos hm, nI_clamp (n := m) (by omega)]
    have hu : ∀ r, unO (zup σ 2 r) m ≤ 2000 := fun r => ng_le97 (hVR.up (fun i _ q _ => zup_ne q) (by rw [zup_ne (by omega)]; exact hVR.2.1)) m2
    obtain ⟨f0, a0, t0, tF⟩ := m_unevenBy (sc := sc) (d := d) (j := j) (m := m) (r := 0) hW hV m2 (by omega)
    have key := zLoopP (n := 3) (g := fun s : (Nat × zF × zA × Value) => rn sc (cf sc (d + 6)) 76 25 [.ref 0, .int (nI m), .int (nI (evF (fun r => unO (zup σ 2 r) m) s.1)), .int (nI (unO (zup σ 2 (evF (fun r => unO (zup σ 2 r) m) s.1)) m)), .int (nI (s.1 + 1)), s.2.2.2] [] s.2.1 s.2.2.1 j) (P := fun i s => s.1 = i ∧ FrT f s.2.1 a s.2.2.1) (by
      intro i s hi hP
      obtain ⟨i', f1, a1, v5⟩ := s
      obtain ⟨rfl, hF⟩ := hP
      dsimp only at hF hi
      have hW1 := hW.fr isW_1 hF
      obtain ⟨f2, a2, t1, t2⟩ := m_unevenBy (sc := sc) (d := d) (j := j) (m := m) (r := i' + 1) hW1 hV m2 (by omega)
      refine ⟨(i' + 1, f2, a2, .int (nI (unO (zup σ 2 (i' + 1)) m))), ⟨rfl, hF.tr t2⟩, ?_⟩
      have c1 : ¬ nI 3 < nI (i' + 1) := nI_nlt (by omega) (by omega)
      have es : evF (fun r => unO (zup σ 2 r) m) (i' + 1) = if unO (zup σ 2 (i' + 1)) m < unO (zup σ 2 (evF (fun r => unO (zup σ 2 r) m) i')) m then i' + 1 else evF (fun r => unO (zup σ 2 r) m) i' := rfl
      dsimp only
      rw [q76_25, es]
      have h1 := hu (i' + 1)
      have h2 := hu (evF (fun r => unO (zup σ 2 r) m) i')
      by_cases hc : unO (zup σ 2 (i' + 1)) m < unO (zup σ 2 (evF (fun r => unO (zup σ 2 r) m) i')) m
      · have c2 : ¬ nI (unO (zup σ 2 (evF (fun r => unO (zup σ 2 r) m) i')) m) ≤ nI (unO (zup σ 2 (i' + 1)) m) := nI_ge hc (by omega)
        rw [if_pos hc]
        simp only [q76_0, q76_1, q76_2, q76_4, q76_7, q76_10, q76_12, q76_13, q76_14, q76_15, q76_16, q76_17, q76_18, q76_21, q76_22, q76_23, q76_27, q76_28, q76_31, q76_32, q76_33, q76_35, q76_38, q76_40, q76_42, q76_43, q76_46, q76_48, q76_49, q76_51, q76_52, q76_55, q76_58, q76_59, c1, c2, t1, zCall_some, Option.toList, List.cons_append, List.nil_append, zb_0, zb_1, zem, z01, z11, nI_add, ↓reduceIte, not_true_eq_false, not_false_eq_true, n0T, n1F, n11T, true_or, or_true, false_or]
      · have c2 : nI (unO (zup σ 2 (evF (fun r => unO (zup σ 2 r) m) i')) m) ≤ nI (unO (zup σ 2 (i' + 1)) m) := nI_le (by omega) (by omega)
        rw [if_neg hc]
        simp only [q76_0, q76_1, q76_2, q76_4, q76_7, q76_10, q76_12, q76_13, q76_14, q76_15, q76_16, q76_17, q76_18, q76_21, q76_22, q76_23, q76_27, q76_28, q76_31, q76_32, q76_33, q76_35, q76_38, q76_40, q76_42, q76_43, q76_46, q76_48, q76_49, q76_51, q76_52, q76_55, q76_58, q76_59, c1, c2, t1, zCall_some, Option.toList, List.cons_append, List.nil_append, zb_0, zb_1, zem, z01, z11, nI_add, ↓reduceIte, not_true_eq_false, not_false_eq_true, n0T, n1F, n11T, true_or, or_true, false_or]) (0, f0, a0, .null) ⟨rfl, tF⟩
    obtain ⟨⟨i, f1, a1, v5⟩, ⟨hi, hF⟩, e⟩ := key
    dsimp only at hF e hi
    rw [hi] at e
    refine ⟨f1, a1, ?_, hF⟩
    have c1 : nI 3 < nI (3 + 1) := nI_lt (by omega) (by omega)
    have t0' : cf sc (d + 6) 103 [.ref 0, .int (nI m), .int 0] f a j = _ := t0
    simp only [q76_0, q76_1, q76_2, q76_4, q76_7, q76_10, q76_12, q76_13, q76_14, q76_15, q76_16, q76_17, q76_18, q76_21, q76_22, q76_23, q76_27, q76_28, q76_31, q76_32, q76_33, q76_35, q76_38, q76_40, q76_42, q76_43, q76_46, q76_48, q76_49, q76_51, q76_52, q76_55, q76_58, q76_59, m_isWithin, eq_true hm, t0, zCall_some, Option.toList, List.cons_append, List.nil_append, zb_0, zb_1, zem, z01, z11, nI_add, ↓reduceIte, not_true_eq_false, not_false_eq_true, n0T, n1F, n11T, true_or, or_true, false_or]
    refine Eq.trans (show _ = _ from e) ?_
    simp only [q76_25, q76_27, q76_28, q76_58, q76_59, c1, zCall_some, Option.toList, List.cons_append, List.nil_append, zb_0, zb_1, zem, z01, z11, nI_add, ↓reduceIte, not_true_eq_false, not_false_eq_true, n0T, n1F, n11T, true_or, or_true, false_or]
  · rw [if_neg hm]
    refine ⟨f, a, ?_, FrT.rf⟩
    simp only [q76_0, q76_1, q76_2, q76_4, q76_7, q76_10, q76_12, q76_13, q76_14, q76_15, q76_16, q76_17, q76_18, q76_21, q76_22, q76_23, q76_27, q76_28, q76_31, q76_32, q76_33, q76_35, q76_38, q76_40, q76_42, q76_43, q76_46, q76_48, q76_49, q76_51, q76_52, q76_55, q76_58, q76_59, m_isWithin, eq_false hm, zCall_some, Option.toList, List.cons_append, List.nil_append, zb_0, zb_1, zem, z01, z11, nI_add, ↓reduceIte, not_true_eq_false, not_false_eq_true, n0T, n1F, n11T, true_or, or_true, false_or]
