/-! ===== the class: judge ===== -/
theorem nn_le {v : Int32} (h : ¬ v < 0) : 0 ≤ v := by
  apply Int32.le_iff_toInt_le.mpr
  have q2 : ¬ v.toInt < (0 : Int32).toInt := fun q => h (Int32.lt_iff_toInt_lt.mpr q)
  omega
theorem lt_nle {v : Int32} (h : v < 0) : ¬ 0 ≤ v := fun q => by
  have q1 : (0 : Int32).toInt ≤ v.toInt := Int32.le_iff_toInt_le.mp q
  have q2 : v.toInt < (0 : Int32).toInt := Int32.lt_iff_toInt_lt.mp h
  omega
def jgT (σ : Nat → Nat) (T : TS) (v i : Int32) : Int32 := if zBtw v 0 5 then (if (T v.toNatClampNeg).1 = -1 ∨ (T v.toNatClampNeg).1 = nI 0 then (if σ 0 = 0 then -5 else if i < 0 then nI 100 else jgF (hvOf σ (σ 3) true) (T v.toNatClampNeg).2.2 (T v.toNatClampNeg).2.1 i.toNatClampNeg 0 (σ 0)) else -12) else -1
theorem x_judge {sc : Int32 × (Int32 → Int32)} {f : zF} {a : zA} {j : zJ} {d : Nat} {σ : Nat → Nat} {T : TS} {v i : Int32} (hW : WR 1 σ f a) (hV : VS σ) (hT : TP T f j) (hVT : VT T) : ∃ (f' : zF) (a' : zA), cf sc (d + 7) 85 [.ref 0, .int v, .int i] f a j = some (some (.int (jgT σ T v i)), f', a', j) ∧ FrT f f' a a' := by
  have hVR := hV.1.1
  have hn := hVR.1
  rw [en85]
  unfold jgT
  by_cases hv : zBtw v 0 5
  · rw [if_pos hv]
    obtain ⟨t, t1, t2, rfl⟩ := zBtw_of (by omega) (by omega) hv
    have ht : t < 6 := by omega
    have hp := isP_t ht
    have ec : (nI t).toNatClampNeg = t := nI_clamp (by omega)
    rw [ec]
    obtain ⟨f1, f2, f3⟩ := hT t ht
    have h60 := hVT.le ht
    -- the way to pc 30
    have hbeg : ((T t).1 = -1 ∨ (T t).1 = nI 0) → rn sc (cf sc (d + 6)) 85 0 [.ref 0, .int (nI t), .int i, .null, .null, .null, .null] [] f a j = rn sc (cf sc (d + 6)) 85 30 [.ref 0, .int (nI t), .int i, .ref (73 + 2 * t), .null, .null, .null] [] f a j := by
      rintro (q | q)
      · simp only [q85_0, q85_1, q85_2, q85_5, q85_6, q85_7, q85_10, q85_11, q85_12, q85_13, q85_16, q85_17, q85_20, q85_21, q85_24, q85_27, q85_29, q85_31, q85_34, q85_36, q85_37, q85_39, q85_41, q85_43, q85_46, q85_49, q85_50, q85_52, q85_53, q85_55, q85_57, q85_58, q85_59, q85_62, q85_63, q85_64, q85_67, q85_70, q85_72, q85_74, q85_75, q85_76, q85_77, q85_80, q85_82, q85_83, q85_85, q85_87, q85_90, q85_91, q85_92, q85_95, q85_97, q85_98, q85_101, q85_104, q85_106, m_tapeT ht, nT ht, hp, f1, q, zCall_some, Option.toList, List.cons_append, List.nil_append, zb_0, zb_1, zem, z01, z11, nI_add, ↓reduceIte, not_true_eq_false, not_false_eq_true, n0T, n1F, n11T, true_or, or_true, false_or]
      · have q' : ¬ nI 0 = -1 := by decide
        simp only [q85_0, q85_1, q85_2, q85_5, q85_6, q85_7, q85_10, q85_11, q85_12, q85_13, q85_16, q85_17, q85_20, q85_21, q85_24, q85_27, q85_29, q85_31, q85_34, q85_36, q85_37, q85_39, q85_41, q85_43, q85_46, q85_49, q85_50, q85_52, q85_53, q85_55, q85_57, q85_58, q85_59, q85_62, q85_63, q85_64, q85_67, q85_70, q85_72, q85_74, q85_75, q85_76, q85_77, q85_80, q85_82, q85_83, q85_85, q85_87, q85_90, q85_91, q85_92, q85_95, q85_97, q85_98, q85_101, q85_104, q85_106, m_tapeT ht, nT ht, hp, f1, q, q', zCall_some, Option.toList, List.cons_append, List.nil_append, zb_0, zb_1, zem, z01, z11, nI_add, ↓reduceIte, not_true_eq_false, not_false_eq_true, n0T, n1F, n11T, true_or, or_true, false_or]
    by_cases hs : (T t).1 = -1 ∨ (T t).1 = nI 0
    · rw [if_pos hs, hbeg hs]
      obtain ⟨f4, a4, r1, r2, r3⟩ := m_turnsNow (sc := sc) (d := d) (j := j) hW hV
      refine ⟨f4, a4, ?_, r3⟩
      have g2 : f4 (73 + 2 * t) 2 = nI (T t).2.1 := by rw [r3.1 _ (by omega)]; exact f2
      have e9 : f4 54 9 = nI (σ 0) := r2.1
      by_cases h0 : σ 0 = 0
      · rw [if_pos h0]
        rw [h0] at e9
        have c1 : nI 0 ≤ nI 0 := nI_le (Nat.le_refl _) (by omega)
        simp only [q85_0, q85_1, q85_2, q85_5, q85_6, q85_7, q85_10, q85_11, q85_12, q85_13, q85_16, q85_17, q85_20, q85_21, q85_24, q85_27, q85_29, q85_30, q85_31, q85_34, q85_36, q85_37, q85_39, q85_41, q85_43, q85_46, q85_49, q85_50, q85_52, q85_53, q85_55, q85_57, q85_58, q85_59, q85_62, q85_63, q85_64, q85_67, q85_70, q85_72, q85_74, q85_75, q85_76, q85_77, q85_80, q85_82, q85_83, q85_85, q85_87, q85_90, q85_91, q85_92, q85_95, q85_97, q85_98, q85_101, q85_104, q85_106, r1, e9, c1, zCall_some, Option.toList, List.cons_append, List.nil_append, zb_0, zb_1, zem, z01, z11, nI_add, ↓reduceIte, not_true_eq_false, not_false_eq_true, n0T, n1F, n11T, true_or, or_true, false_or]
      · rw [if_neg h0]
        by_cases hi : i < 0
        · rw [if_pos hi]
          have c1 : ¬ nI (σ 0) ≤ nI 0 := nI_ge (by omega) (by omega)
          have ei : i + nI 0 = i := by rw [n0]; exact Int32.add_zero i
          have c2 : (¬ i < nI 0 ∧ ¬ nI (T t).2.1 - nI 1 < i) = False := eq_false (fun q => q.1 hi)
          simp only [q85_0, q85_1, q85_2, q85_5, q85_6, q85_7, q85_10, q85_11, q85_12, q85_13, q85_16, q85_17, q85_20, q85_21, q85_24, q85_27, q85_29, q85_30, q85_31, q85_34, q85_36, q85_37, q85_39, q85_41, q85_43, q85_46, q85_49, q85_50, q85_52, q85_53, q85_55, q85_57, q85_58, q85_59, q85_62, q85_63, q85_64, q85_67, q85_70, q85_72, q85_74, q85_75, q85_76, q85_77, q85_80, q85_82, q85_83, q85_85, q85_87, q85_90, q85_91, q85_92, q85_95, q85_97, q85_98, q85_101, q85_104, q85_106, r1, e9, c1, ei, hp, g2, m_isWithin, c2, zCall_some, Option.toList, List.cons_append, List.nil_append, zb_0, zb_1, zem, z01, z11, nI_add, ↓reduceIte, not_true_eq_false, not_false_eq_true, n0T, n1F, n11T, true_or, or_true, false_or]
        · rw [if_neg hi]
          obtain ⟨x, x1, rfl⟩ := nI_of hi
          rw [nI_clamp x1]
          have key : ∀ m k (v6 : Value), k + m = σ 0 → (k = 0 ∨ x + k ≤ (T t).2.1) → rn sc (cf sc (d + 6)) 85 39 [.ref 0, .int (nI t), .int (nI x), .ref (73 + 2 * t), .ref 54, .int (nI k), v6] [] f4 a4 j = some (some (.int (jgF (hvOf σ (σ 3) true) (T t).2.2 (T t).2.1 x k m)), f4, a4, j) := by
            intro m
            induction m with
            | zero =>
              intro k v6 hk hx
              have c1 : nI (σ 0) ≤ nI k := nI_le (by omega) (by omega)
              simp only [q85_39, q85_41, q85_43, q85_46, q85_104, q85_106, e9, c1, jgF, zCall_some, Option.toList, List.cons_append, List.nil_append, zb_0, zb_1, zem, z01, z11, nI_add, ↓reduceIte, not_true_eq_false, not_false_eq_true, n0T, n1F, n11T, true_or, or_true, false_or]
            | succ m ih =>
              intro k v6 hk hx
              have c1 : ¬ nI (σ 0) ≤ nI k := nI_ge (by omega) (by omega)
              have hxk : x + k < 2 ^ 31 := by omega
              have ew := zb_iff (has_iff (v := nI (x + k)) (n := (T t).2.1) (by omega))
              show _ = some (some (Value.int (if (T t).2.1 ≤ x + k then nI (100 + k) else if (T t).2.2 (x + k) = lN (hvOf σ (σ 3) true k) then jgF (hvOf σ (σ 3) true) (T t).2.2 (T t).2.1 x (k + 1) m else nI k)), f4, a4, j)
              rw [q85_39]
              by_cases w1 : (T t).2.1 ≤ x + k
              · rw [if_pos w1]
                have c3 : zHas (nI (x + k)) (T t).2.1 = False := eq_false (fun q => absurd q.2 (nI_nlt w1 hxk))
                simp only [q85_0, q85_1, q85_2, q85_5, q85_6, q85_7, q85_10, q85_11, q85_12, q85_13, q85_16, q85_17, q85_20, q85_21, q85_24, q85_27, q85_29, q85_30, q85_31, q85_34, q85_36, q85_37, q85_41, q85_43, q85_46, q85_49, q85_50, q85_52, q85_53, q85_55, q85_57, q85_58, q85_59, q85_62, q85_63, q85_64, q85_67, q85_70, q85_72, q85_74, q85_75, q85_76, q85_77, q85_80, q85_82, q85_83, q85_85, q85_87, q85_90, q85_91, q85_92, q85_95, q85_97, q85_98, q85_101, q85_104, q85_106, hp, e9, c1, g2, m_isWithin, ew, c3, zCall_some, Option.toList, List.cons_append, List.nil_append, zb_0, zb_1, zem, z01, z11, nI_add, ↓reduceIte, not_true_eq_false, not_false_eq_true, n0T, n1F, n11T, true_or, or_true, false_or]
              · rw [if_neg w1]
                have c3 : zHas (nI (x + k)) (T t).2.1 = True := eq_true (zHas_nI (by omega) (by omega))
                have ix : zIx 22 (73 + 2 * t + 1) (nI (x + k)) := ixP hp (by omega)
                have e1 := f3 (x + k) (by omega)
                have h97 := hv_97 hVR (tr := true) (fun _ => hV.2.1) (g := k) (by omega)
                have e2 := m_hvOf (sc := sc) (d := d + 3) (j := j) hVR r2 (g := k) (by omega)
                have e3 := i64_nI (q := hvOf σ (σ 3) true k) (by omega)
                by_cases w2 : (T t).2.2 (x + k) = lN (hvOf σ (σ 3) true k)
                · rw [if_pos w2, ← ih (k + 1) (.int (nI (x + k))) (by omega) (by omega)]
                  simp only [q85_0, q85_1, q85_2, q85_5, q85_6, q85_7, q85_10, q85_11, q85_12, q85_13, q85_16, q85_17, q85_20, q85_21, q85_24, q85_27, q85_29, q85_30, q85_31, q85_34, q85_36, q85_37, q85_41, q85_43, q85_46, q85_49, q85_50, q85_52, q85_53, q85_55, q85_57, q85_58, q85_59, q85_62, q85_63, q85_64, q85_67, q85_70, q85_72, q85_74, q85_75, q85_76, q85_77, q85_80, q85_82, q85_83, q85_85, q85_87, q85_90, q85_91, q85_92, q85_95, q85_97, q85_98, q85_101, q85_104, q85_106, hp, e9, c1, g2, m_isWithin, ew, c3, ix, e1, e2, e3, lg_cmp_eq, eq_true w2, zCall_some, Option.toList, List.cons_append, List.nil_append, zb_0, zb_1, zem, z01, z11, nI_add, ↓reduceIte, not_true_eq_false, not_false_eq_true, n0T, n1F, n11T, true_or, or_true, false_or]
                · rw [if_neg w2]
                  simp only [q85_0, q85_1, q85_2, q85_5, q85_6, q85_7, q85_10, q85_11, q85_12, q85_13, q85_16, q85_17, q85_20, q85_21, q85_24, q85_27, q85_29, q85_30, q85_31, q85_34, q85_36, q85_37, q85_41, q85_43, q85_46, q85_49, q85_50, q85_52, q85_53, q85_55, q85_57, q85_58, q85_59, q85_62, q85_63, q85_64, q85_67, q85_70, q85_72, q85_74, q85_75, q85_76, q85_77, q85_80, q85_82, q85_83, q85_85, q85_87, q85_90, q85_91, q85_92, q85_95, q85_97, q85_98, q85_101, q85_104, q85_106, hp, e9, c1, g2, m_isWithin, ew, c3, ix, e1, e2, e3, lg_cmp_eq, eq_false w2, zCall_some, Option.toList, List.cons_append, List.nil_append, zb_0, zb_1, zem, z01, z11, nI_add, ↓reduceIte, not_true_eq_false, not_false_eq_true, n0T, n1F, n11T, true_or, or_true, false_or]
          simp only [q85_0, q85_1, q85_2, q85_5, q85_6, q85_7, q85_10, q85_11, q85_12, q85_13, q85_16, q85_17, q85_20, q85_21, q85_24, q85_27, q85_29, q85_30, q85_31, q85_34, q85_36, q85_37, q85_41, q85_43, q85_46, q85_49, q85_50, q85_52, q85_53, q85_55, q85_57, q85_58, q85_59, q85_62, q85_63, q85_64, q85_67, q85_70, q85_72, q85_74, q85_75, q85_76, q85_77, q85_80, q85_82, q85_83, q85_85, q85_87, q85_90, q85_91, q85_92, q85_95, q85_97, q85_98, q85_101, q85_104, q85_106, r1, zCall_some, Option.toList, List.cons_append, List.nil_append, zb_0, zb_1, zem, z01, z11, nI_add, ↓reduceIte, not_true_eq_false, not_false_eq_true, n0T, n1F, n11T, true_or, or_true, false_or]
          exact key (σ 0) 0 .null (by omega) (Or.inl rfl)
    · rw [if_neg hs]
      have s1 : ¬ (T t).1 = -1 := fun q => hs (Or.inl q)
      have s2 : ¬ (T t).1 = nI 0 := fun q => hs (Or.inr q)
      have s2' : ¬ (T t).1 = 0 := s2
      refine ⟨f, a, ?_, FrT.rf⟩
      simp only [q85_0, q85_1, q85_2, q85_5, q85_6, q85_7, q85_10, q85_11, q85_12, q85_13, q85_16, q85_17, q85_20, q85_21, q85_24, q85_27, q85_29, q85_30, q85_31, q85_34, q85_36, q85_37, q85_39, q85_41, q85_43, q85_46, q85_49, q85_50, q85_52, q85_53, q85_55, q85_57, q85_58, q85_59, q85_62, q85_63, q85_64, q85_67, q85_70, q85_72, q85_74, q85_75, q85_76, q85_77, q85_80, q85_82, q85_83, q85_85, q85_87, q85_90, q85_91, q85_92, q85_95, q85_97, q85_98, q85_101, q85_104, q85_106, m_tapeT ht, nT ht, hp, f1, s1, s2', zCall_some, Option.toList, List.cons_append, List.nil_append, zb_0, zb_1, zem, z01, z11, nI_add, ↓reduceIte, not_true_eq_false, not_false_eq_true, n0T, n1F, n11T, true_or, or_true, false_or]
  · rw [if_neg hv]
    refine ⟨f, a, ?_, FrT.rf⟩
    simp only [q85_0, q85_1, q85_2, q85_5, q85_6, q85_7, q85_10, q85_11, q85_12, q85_13, q85_16, q85_17, q85_20, q85_21, q85_24, q85_27, q85_29, q85_30, q85_31, q85_34, q85_36, q85_37, q85_39, q85_41, q85_43, q85_46, q85_49, q85_50, q85_52, q85_53, q85_55, q85_57, q85_58, q85_59, q85_62, q85_63, q85_64, q85_67, q85_70, q85_72, q85_74, q85_75, q85_76, q85_77, q85_80, q85_82, q85_83, q85_85, q85_87, q85_90, q85_91, q85_92, q85_95, q85_97, q85_98, q85_101, q85_104, q85_106, m_tapeN hv, zCall_some, Option.toList, List.cons_append, List.nil_append, zb_0, zb_1, zem, z01, z11, nI_add, ↓reduceIte, not_true_eq_false, not_false_eq_true, n0T, n1F, n11T, true_or, or_true, false_or]
