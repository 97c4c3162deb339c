/-! ===== the class: judge ===== -/
theorem nn_le {v : Int32} (h : ¬ v < 0) : 0 ≤ v := by
  apply Int32.le_iff_toInt_le.mpr
  have q2 : ¬ v.toInt < (0 : Int32).toInt := fun q => h (Int32.lt_iff_toInt_lt.mpr q)
  omega
theorem lt_nle {v : Int32} (h : v < 0) : ¬ 0 ≤ v := fun q => by
  have q1 : (0 : Int32).toInt ≤ v.toInt := Int32.le_iff_toInt_le.mp q
  have q2 : v.toInt < (0 : Int32).toInt := Int32.lt_iff_toInt_lt.mp h
  omega
def jgT (σ : Nat → Nat) (T : TS) (v i : Int32) : Int32 := if zBtw v 0 5 then (if (T v.toNatClampNeg).1 = -1 ∨ (T v.toNatClampNeg).1 = nI 0 then (if σ 0 = 0 then -5 else if i < 0 then nI 100 else jgF (hvOf σ (σ 3) true) (T v.toNatClampNeg).2.2 (T v.toNatClampNeg).2.1 i.toNatClampNeg 0 (σ 0)) else -12) else -1
theorem x_judge {sc : Int32 × (Int32 → Int32)} {f : zF} {a : zA} {j : zJ} {d : Nat} {σ : Nat → Nat} {T : TS} {v i : Int32} (hW : WR 1 σ f a) (hV : VS σ) (hT : TP T f j) (hVT : VT T) : ∃ (f' : zF) (a' : zA), cf sc (d + 6) 81 [.ref 0, .int v, .int i] f a j = some (some (.int (jgT σ T v i)), f', a', j) ∧ FrT f f' a a' := by
  have hVR := hV.1.1
  have hn := hVR.1
  have e6 : f 2 6 = nI (σ 0) := hW.1.1
  rw [en81]
  unfold jgT
  by_cases hv : zBtw v 0 5
  · rw [if_pos hv]
    obtain ⟨t, t1, t2, rfl⟩ := zBtw_of (by omega) (by omega) hv
    have ht : t < 6 := by omega
    have hp := isP_t ht
    have hx := ix72 ht
    have ec : (nI t).toNatClampNeg = t := nI_clamp (by omega)
    rw [ec]
    obtain ⟨f1, f2, f3⟩ := hT t ht
    have h60 := hVT.le ht
    -- the way to pc 36
    have hbeg : ((T t).1 = -1 ∨ (T t).1 = nI 0) → rn sc (cf sc (d + 5)) 81 0 [.ref 0, .int (nI t), .int i, .null, .null, .null, .null] [] f a j = rn sc (cf sc (d + 5)) 81 36 [.ref 0, .int (nI t), .int i, .ref (73 + 2 * t), .null, .null, .null] [] f a j := by
      rintro (q | q)
      · simp only [q81_0, q81_1, q81_2, q81_3, q81_6, q81_9, q81_10, q81_11, q81_12, q81_15, q81_16, q81_17, q81_18, q81_19, q81_22, q81_23, q81_26, q81_27, q81_30, q81_33, q81_35, q81_37, q81_40, q81_43, q81_46, q81_48, q81_50, q81_53, q81_55, q81_56, q81_57, q81_60, q81_62, q81_63, q81_64, q81_67, q81_69, q81_70, q81_72, q81_74, q81_76, q81_79, q81_80, q81_81, q81_84, q81_87, q81_88, q81_90, q81_91, q81_92, q81_95, q81_98, q81_100, q81_102, q81_103, q81_104, q81_105, q81_108, q81_109, q81_111, q81_112, q81_113, q81_115, q81_118, q81_120, q81_121, q81_122, q81_123, q81_126, q81_128, q81_129, q81_132, q81_135, q81_137, m_isWithin, eq_true hv, eq_true hx, ec, rf72 ht, hp, f1, q, zCall_some, Option.toList, List.cons_append, List.nil_append, zb_0, zb_1, zem, z01, z11, nI_add, ↓reduceIte, not_true_eq_false, not_false_eq_true, n0T, n1F, n11T, true_or, or_true, false_or]
      · have q' : ¬ nI 0 = -1 := by decide
        simp only [q81_0, q81_1, q81_2, q81_3, q81_6, q81_9, q81_10, q81_11, q81_12, q81_15, q81_16, q81_17, q81_18, q81_19, q81_22, q81_23, q81_26, q81_27, q81_30, q81_33, q81_35, q81_37, q81_40, q81_43, q81_46, q81_48, q81_50, q81_53, q81_55, q81_56, q81_57, q81_60, q81_62, q81_63, q81_64, q81_67, q81_69, q81_70, q81_72, q81_74, q81_76, q81_79, q81_80, q81_81, q81_84, q81_87, q81_88, q81_90, q81_91, q81_92, q81_95, q81_98, q81_100, q81_102, q81_103, q81_104, q81_105, q81_108, q81_109, q81_111, q81_112, q81_113, q81_115, q81_118, q81_120, q81_121, q81_122, q81_123, q81_126, q81_128, q81_129, q81_132, q81_135, q81_137, m_isWithin, eq_true hv, eq_true hx, ec, rf72 ht, hp, f1, q, q', zCall_some, Option.toList, List.cons_append, List.nil_append, zb_0, zb_1, zem, z01, z11, nI_add, ↓reduceIte, not_true_eq_false, not_false_eq_true, n0T, n1F, n11T, true_or, or_true, false_or]
    by_cases hs : (T t).1 = -1 ∨ (T t).1 = nI 0
    · rw [if_pos hs, hbeg hs]
      by_cases h0 : σ 0 = 0
      · rw [if_pos h0]
        rw [h0] at e6
        refine ⟨f, a, ?_, FrT.rf⟩
        simp only [q81_0, q81_1, q81_2, q81_3, q81_6, q81_9, q81_10, q81_11, q81_12, q81_15, q81_16, q81_17, q81_18, q81_19, q81_22, q81_23, q81_26, q81_27, q81_30, q81_33, q81_35, q81_36, q81_37, q81_40, q81_43, q81_46, q81_48, q81_50, q81_53, q81_55, q81_56, q81_57, q81_60, q81_62, q81_63, q81_64, q81_67, q81_69, q81_70, q81_72, q81_74, q81_76, q81_79, q81_80, q81_81, q81_84, q81_87, q81_88, q81_90, q81_91, q81_92, q81_95, q81_98, q81_100, q81_102, q81_103, q81_104, q81_105, q81_108, q81_109, q81_111, q81_112, q81_113, q81_115, q81_118, q81_120, q81_121, q81_122, q81_123, q81_126, q81_128, q81_129, q81_132, q81_135, q81_137, isW_1, isC_2, Nat.reduceAdd, e6, zCall_some, Option.toList, List.cons_append, List.nil_append, zb_0, zb_1, zem, z01, z11, nI_add, ↓reduceIte, not_true_eq_false, not_false_eq_true, n0T, n1F, n11T, true_or, or_true, false_or]
      · rw [if_neg h0]
        have c0 : ¬ nI (σ 0) = 0 := nI_ne0 (by omega) (by omega)
        by_cases hi : i < 0
        · rw [if_pos hi]
          refine ⟨f, a, ?_, FrT.rf⟩
          simp only [q81_0, q81_1, q81_2, q81_3, q81_6, q81_9, q81_10, q81_11, q81_12, q81_15, q81_16, q81_17, q81_18, q81_19, q81_22, q81_23, q81_26, q81_27, q81_30, q81_33, q81_35, q81_36, q81_37, q81_40, q81_43, q81_46, q81_48, q81_50, q81_53, q81_55, q81_56, q81_57, q81_60, q81_62, q81_63, q81_64, q81_67, q81_69, q81_70, q81_72, q81_74, q81_76, q81_79, q81_80, q81_81, q81_84, q81_87, q81_88, q81_90, q81_91, q81_92, q81_95, q81_98, q81_100, q81_102, q81_103, q81_104, q81_105, q81_108, q81_109, q81_111, q81_112, q81_113, q81_115, q81_118, q81_120, q81_121, q81_122, q81_123, q81_126, q81_128, q81_129, q81_132, q81_135, q81_137, isW_1, isC_2, Nat.reduceAdd, e6, c0, lt_nle hi, zCall_some, Option.toList, List.cons_append, List.nil_append, zb_0, zb_1, zem, z01, z11, nI_add, ↓reduceIte, not_true_eq_false, not_false_eq_true, n0T, n1F, n11T, true_or, or_true, false_or]
        · rw [if_neg hi]
          obtain ⟨x, x1, rfl⟩ := nI_of hi
          rw [nI_clamp x1]
          obtain ⟨f4, a4, r1, r2, r3⟩ := m_turnsNow (sc := sc) (d := d) (j := j) hW hV
          refine ⟨f4, a4, ?_, r3⟩
          have g2 : f4 (73 + 2 * t) 2 = nI (T t).2.1 := by rw [r3.1 _ (by omega)]; exact f2
          have key : ∀ m k, k + m = σ 0 → rn sc (cf sc (d + 5)) 81 72 [.ref 0, .int (nI t), .int (nI x), .ref (73 + 2 * t), .int (nI (σ 0)), .ref 54, .int (nI k)] [] f4 a4 j = some (some (.int (jgF (hvOf σ (σ 3) true) (T t).2.2 (T t).2.1 x k m)), f4, a4, j) := by
            intro m
            induction m with
            | zero =>
              intro k hk
              have c1 : nI (σ 0) ≤ nI k := nI_le (by omega) (by omega)
              simp only [q81_72, q81_74, q81_76, q81_135, q81_137, c1, jgF, zCall_some, Option.toList, List.cons_append, List.nil_append, zb_0, zb_1, zem, z01, z11, nI_add, ↓reduceIte, not_true_eq_false, not_false_eq_true, n0T, n1F, n11T, true_or, or_true, false_or]
            | succ m ih =>
              intro k hk
              have c1 : ¬ nI (σ 0) ≤ nI k := nI_ge (by omega) (by omega)
              show _ = some (some (Value.int (if (T t).2.1 ≤ x + k then nI (100 + k) else if (T t).2.2 (x + k) = lN (hvOf σ (σ 3) true k) then jgF (hvOf σ (σ 3) true) (T t).2.2 (T t).2.1 x (k + 1) m else nI k)), f4, a4, j)
              rw [q81_72]
              by_cases w0 : (T t).2.1 ≤ x
              · rw [if_pos (by omega)]
                have c2 : nI (T t).2.1 ≤ nI x := nI_le w0 x1
                simp only [q81_0, q81_1, q81_2, q81_3, q81_6, q81_9, q81_10, q81_11, q81_12, q81_15, q81_16, q81_17, q81_18, q81_19, q81_22, q81_23, q81_26, q81_27, q81_30, q81_33, q81_35, q81_36, q81_37, q81_40, q81_43, q81_46, q81_48, q81_50, q81_53, q81_55, q81_56, q81_57, q81_60, q81_62, q81_63, q81_64, q81_67, q81_69, q81_70, q81_74, q81_76, q81_79, q81_80, q81_81, q81_84, q81_87, q81_88, q81_90, q81_91, q81_92, q81_95, q81_98, q81_100, q81_102, q81_103, q81_104, q81_105, q81_108, q81_109, q81_111, q81_112, q81_113, q81_115, q81_118, q81_120, q81_121, q81_122, q81_123, q81_126, q81_128, q81_129, q81_132, q81_135, q81_137, hp, c1, g2, c2, zCall_some, Option.toList, List.cons_append, List.nil_append, zb_0, zb_1, zem, z01, z11, nI_add, ↓reduceIte, not_true_eq_false, not_false_eq_true, n0T, n1F, n11T, true_or, or_true, false_or]
              · have c2 : ¬ nI (T t).2.1 ≤ nI x := nI_ge (by omega) (by omega)
                by_cases w1 : (T t).2.1 ≤ x + k
                · rw [if_pos w1]
                  have c3 : ¬ nI (x + k) < nI (T t).2.1 := nI_nlt w1 (by omega)
                  simp only [q81_0, q81_1, q81_2, q81_3, q81_6, q81_9, q81_10, q81_11, q81_12, q81_15, q81_16, q81_17, q81_18, q81_19, q81_22, q81_23, q81_26, q81_27, q81_30, q81_33, q81_35, q81_36, q81_37, q81_40, q81_43, q81_46, q81_48, q81_50, q81_53, q81_55, q81_56, q81_57, q81_60, q81_62, q81_63, q81_64, q81_67, q81_69, q81_70, q81_74, q81_76, q81_79, q81_80, q81_81, q81_84, q81_87, q81_88, q81_90, q81_91, q81_92, q81_95, q81_98, q81_100, q81_102, q81_103, q81_104, q81_105, q81_108, q81_109, q81_111, q81_112, q81_113, q81_115, q81_118, q81_120, q81_121, q81_122, q81_123, q81_126, q81_128, q81_129, q81_132, q81_135, q81_137, hp, c1, g2, c2, c3, zCall_some, Option.toList, List.cons_append, List.nil_append, zb_0, zb_1, zem, z01, z11, nI_add, ↓reduceIte, not_true_eq_false, not_false_eq_true, n0T, n1F, n11T, true_or, or_true, false_or]
                · rw [if_neg w1]
                  have c3 : nI (x + k) < nI (T t).2.1 := nI_lt (by omega) (by omega)
                  have ix : zIx 22 (73 + 2 * t + 1) (nI (x + k)) := ixP hp (by omega)
                  have iy : zIx 21 58 (nI k) := ix58 (by omega)
                  have e1 := f3 (x + k) (by omega)
                  have e2 := r2.2.2.2.2.2.2.2.2.1 k (by omega)
                  have h97 := hv_97 hVR (tr := true) (fun _ => hV.2.1) (g := k) (by omega)
                  have e3 := i64_nI (q := hvOf σ (σ 3) true k) (by omega)
                  by_cases w2 : (T t).2.2 (x + k) = lN (hvOf σ (σ 3) true k)
                  · rw [if_pos w2, ← ih (k + 1) (by omega)]
                    simp only [q81_0, q81_1, q81_2, q81_3, q81_6, q81_9, q81_10, q81_11, q81_12, q81_15, q81_16, q81_17, q81_18, q81_19, q81_22, q81_23, q81_26, q81_27, q81_30, q81_33, q81_35, q81_36, q81_37, q81_40, q81_43, q81_46, q81_48, q81_50, q81_53, q81_55, q81_56, q81_57, q81_60, q81_62, q81_63, q81_64, q81_67, q81_69, q81_70, q81_74, q81_76, q81_79, q81_80, q81_81, q81_84, q81_87, q81_88, q81_90, q81_91, q81_92, q81_95, q81_98, q81_100, q81_102, q81_103, q81_104, q81_105, q81_108, q81_109, q81_111, q81_112, q81_113, q81_115, q81_118, q81_120, q81_121, q81_122, q81_123, q81_126, q81_128, q81_129, q81_132, q81_135, q81_137, hp, c1, g2, c2, c3, ix, iy, e1, e2, e3, lg_cmp_eq, eq_true w2, zCall_some, Option.toList, List.cons_append, List.nil_append, zb_0, zb_1, zem, z01, z11, nI_add, ↓reduceIte, not_true_eq_false, not_false_eq_true, n0T, n1F, n11T, true_or, or_true, false_or]
                  · rw [if_neg w2]
                    simp only [q81_0, q81_1, q81_2, q81_3, q81_6, q81_9, q81_10, q81_11, q81_12, q81_15, q81_16, q81_17, q81_18, q81_19, q81_22, q81_23, q81_26, q81_27, q81_30, q81_33, q81_35, q81_36, q81_37, q81_40, q81_43, q81_46, q81_48, q81_50, q81_53, q81_55, q81_56, q81_57, q81_60, q81_62, q81_63, q81_64, q81_67, q81_69, q81_70, q81_74, q81_76, q81_79, q81_80, q81_81, q81_84, q81_87, q81_88, q81_90, q81_91, q81_92, q81_95, q81_98, q81_100, q81_102, q81_103, q81_104, q81_105, q81_108, q81_109, q81_111, q81_112, q81_113, q81_115, q81_118, q81_120, q81_121, q81_122, q81_123, q81_126, q81_128, q81_129, q81_132, q81_135, q81_137, hp, c1, g2, c2, c3, ix, iy, e1, e2, e3, lg_cmp_eq, eq_false w2, zCall_some, Option.toList, List.cons_append, List.nil_append, zb_0, zb_1, zem, z01, z11, nI_add, ↓reduceIte, not_true_eq_false, not_false_eq_true, n0T, n1F, n11T, true_or, or_true, false_or]
          simp only [q81_0, q81_1, q81_2, q81_3, q81_6, q81_9, q81_10, q81_11, q81_12, q81_15, q81_16, q81_17, q81_18, q81_19, q81_22, q81_23, q81_26, q81_27, q81_30, q81_33, q81_35, q81_36, q81_37, q81_40, q81_43, q81_46, q81_48, q81_50, q81_53, q81_55, q81_56, q81_57, q81_60, q81_62, q81_63, q81_64, q81_67, q81_69, q81_70, q81_74, q81_76, q81_79, q81_80, q81_81, q81_84, q81_87, q81_88, q81_90, q81_91, q81_92, q81_95, q81_98, q81_100, q81_102, q81_103, q81_104, q81_105, q81_108, q81_109, q81_111, q81_112, q81_113, q81_115, q81_118, q81_120, q81_121, q81_122, q81_123, q81_126, q81_128, q81_129, q81_132, q81_135, q81_137, isW_1, isC_2, Nat.reduceAdd, e6, c0, nn_le hi, r1, zCall_some, Option.toList, List.cons_append, List.nil_append, zb_0, zb_1, zem, z01, z11, nI_add, ↓reduceIte, not_true_eq_false, not_false_eq_true, n0T, n1F, n11T, true_or, or_true, false_or]
          exact key (σ 0) 0 (by omega)
    · rw [if_neg hs]
      have s1 : ¬ (T t).1 = -1 := fun q => hs (Or.inl q)
      have s2 : ¬ (T t).1 = nI 0 := fun q => hs (Or.inr q)
      have s2' : ¬ (T t).1 = 0 := s2
      refine ⟨f, a, ?_, FrT.rf⟩
      simp only [q81_0, q81_1, q81_2, q81_3, q81_6, q81_9, q81_10, q81_11, q81_12, q81_15, q81_16, q81_17, q81_18, q81_19, q81_22, q81_23, q81_26, q81_27, q81_30, q81_33, q81_35, q81_36, q81_37, q81_40, q81_43, q81_46, q81_48, q81_50, q81_53, q81_55, q81_56, q81_57, q81_60, q81_62, q81_63, q81_64, q81_67, q81_69, q81_70, q81_72, q81_74, q81_76, q81_79, q81_80, q81_81, q81_84, q81_87, q81_88, q81_90, q81_91, q81_92, q81_95, q81_98, q81_100, q81_102, q81_103, q81_104, q81_105, q81_108, q81_109, q81_111, q81_112, q81_113, q81_115, q81_118, q81_120, q81_121, q81_122, q81_123, q81_126, q81_128, q81_129, q81_132, q81_135, q81_137, m_isWithin, eq_true hv, eq_true hx, ec, rf72 ht, hp, f1, s1, s2', zCall_some, Option.toList, List.cons_append, List.nil_append, zb_0, zb_1, zem, z01, z11, nI_add, ↓reduceIte, not_true_eq_false, not_false_eq_true, n0T, n1F, n11T, true_or, or_true, false_or]
  · rw [if_neg hv]
    refine ⟨f, a, ?_, FrT.rf⟩
    simp only [q81_0, q81_1, q81_2, q81_3, q81_6, q81_9, q81_10, q81_11, q81_12, q81_15, q81_16, q81_17, q81_18, q81_19, q81_22, q81_23, q81_26, q81_27, q81_30, q81_33, q81_35, q81_36, q81_37, q81_40, q81_43, q81_46, q81_48, q81_50, q81_53, q81_55, q81_56, q81_57, q81_60, q81_62, q81_63, q81_64, q81_67, q81_69, q81_70, q81_72, q81_74, q81_76, q81_79, q81_80, q81_81, q81_84, q81_87, q81_88, q81_90, q81_91, q81_92, q81_95, q81_98, q81_100, q81_102, q81_103, q81_104, q81_105, q81_108, q81_109, q81_111, q81_112, q81_113, q81_115, q81_118, q81_120, q81_121, q81_122, q81_123, q81_126, q81_128, q81_129, q81_132, q81_135, q81_137, m_isWithin, eq_false hv, zCall_some, Option.toList, List.cons_append, List.nil_append, zb_0, zb_1, zem, z01, z11, nI_add, ↓reduceIte, not_true_eq_false, not_false_eq_true, n0T, n1F, n11T, true_or, or_true, false_or]
